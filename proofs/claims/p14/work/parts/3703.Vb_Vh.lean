/-! The mending of a round: both sides mend the same, or both mend nothing. -/
theorem con_both {s t : St} {m ni nc ld : Nat} (hl : LL s t m ni nc) (hx : LX s t m nc) (hld : ld < m) :
    (fX2_bringsConstant s (nI ld) = some (0, s) ∧ fX6_putConstant t (nI ld) = some (0, si (si (si t 53 0) 54 1) 55 (nI ld))) ∨
    (nc < 16 ∧ ∃ r, r < m ∧ s 8 r = 5 ∧ fX2_bringsConstant s (nI ld) = some (1, addK_c s nc (t 3 ld) r) ∧ fX6_putConstant t (nI ld) = some (1, si (sa (sa t 10 nc (t 3 ld)) 11 nc (nI r)) 49 (nI (nc + 1)))) := by
  obtain ⟨⟨hp, hq, hit, hre, hsi, hsc, h48, h49, hki, hkc, hg, hlb, hlB⟩, l25, b25, li, bi, lc, bc, le, l53, l52, lz⟩ := hl
  have hm := hp.1
  have hnc := hsc.1
  have hX : ∀ r, r < m → s 8 r = 5 → fX2_nextConstantIn s (nI r) = some (t 16 r) := by
    intro r hr h5
    obtain ⟨_, S, c, h1, h2, h3, h4⟩ := le r hr h5
    rw [h4]; exact nextC_eq (by omega) h1 h2 h3
  have eC : fX2_bringsConstant s (nI ld) = (if lastS (okC s (t 16) (s 25 ld)) (-1) (ld + 1) (m - (ld + 1)) = -1 then some (0, s) else bd1 (fX0_toldOf_p s (nI ld)) fun r9 => bd2 (fX4_add_c s r9 (lastS (okC s (t 16) (s 25 ld)) (-1) (ld + 1) (m - (ld + 1)))) fun r12 s13 => (if r12 = 0 then (some ((0 : Int32), s13)) else (some ((1 : Int32), s13)))) := by
    unfold fX2_bringsConstant
    rw [addressOf_in (by omega), bd1_s, nI_1]
    exact brC_loop hp hX (m - (ld + 1)) (ld + 1) FU (-1) (by omega) (by unfold FU; omega)
  have eM : fX6_putConstant t (nI ld) = (if lastS (okM t (t 12 ld)) (-1) (ld + 1) (m - (ld + 1)) = -1 ∨ nc = 16 then some (0, si (si (si t 53 0) 54 1) 55 (nI ld)) else some (1, si (sa (sa t 10 nc (t 3 ld)) 11 nc (lastS (okM t (t 12 ld)) (-1) (ld + 1) (m - (ld + 1)))) 49 (nI (nc + 1)))) := by
    unfold fX6_putConstant
    rw [nI_1]
    exact puM_loop hq (by omega) h49 hnc (m - (ld + 1)) (ld + 1) FU (-1) (by omega) (by unfold FU; omega)
  have ec : lastS (okC s (t 16) (s 25 ld)) (-1) (ld + 1) (m - (ld + 1)) = lastS (okM t (t 12 ld)) (-1) (ld + 1) (m - (ld + 1)) := lastS_congr (fun j h1 h2 => by
    have hj : j < m := by omega
    unfold okC okM
    rw [← (hit j hj).1, ← hre 2 (by omega), ← l25 ld hld]
    exact decide_eq_decide.mpr ⟨fun h => ⟨h.1, h.2.2⟩, fun h => ⟨h.1, hx.1 ld j (by omega) hj h.1, h.2⟩⟩)
  rw [ec] at eC
  rcases lastS_val (P := okM t (t 12 ld)) (d := m - (ld + 1)) (i := ld + 1) (g := -1) with e | ⟨r, h1, h2, e, ho⟩
  · rw [if_pos e] at eC
    rw [if_pos (Or.inl e)] at eM
    exact Or.inl ⟨eC, eM⟩
  · have hr : r < m := by omega
    have h5 : s 8 r = 5 := by
      have := of_decide_eq_true (show decide (t 2 r = 5 ∧ ¬ t 4 2 < t 16 r - t 12 ld) = true from ho)
      rw [(hit r hr).1]; exact this.1
    rw [e] at eC eM
    rw [if_neg (nI_m1 (by omega)), told_in_p hp.2.1 hm hld, bd1_s] at eC
    by_cases q : nc = 16
    · rw [if_pos (Or.inr q)] at eM
      rw [q] at hsc
      rw [sadd_full_c hsc, bd2_s, if_pos rfl] at eC
      exact Or.inl ⟨eC, eM⟩
    · have hn : nc < 16 := by omega
      rw [if_neg (fun z => z.elim (nI_m1 (by omega)) q)] at eM
      rw [sadd_in_c hsc hn (by omega), bd2_s, if_neg d_1_0, (hit ld hld).2.1] at eC
      exact Or.inr ⟨hn, r, hr, h5, eC, eM⟩
theorem isl_both {s t : St} {m ni nc l : Nat} {frm w who : Int32} (hl : LL s t m ni nc) (h8 : l < 8) :
    (fX2_bringsIsland s frm (nI l) = some (0, s) ∧ fX6_putIsland t frm (nI l) w who = some (0, si (si (si t 53 0) 54 w) 55 who)) ∨
    (ni < 12 ∧ ∃ r, r < m ∧ s 8 r = 5 ∧ fX2_bringsIsland s frm (nI l) = some (1, addK_i s ni (nI l) r) ∧ fX6_putIsland t frm (nI l) w who = some (1, si (sa (sa t 8 ni (nI l)) 9 ni (nI r)) 48 (nI (ni + 1)))) := by
  obtain ⟨⟨hp, hq, hit, hre, hsi, hsc, h48, h49, hki, hkc, hg, hlb, hlB⟩, l25, b25, li, bi, lc, bc, le, l53, l52, lz⟩ := hl
  have hm := hp.1
  have hni := hsi.1
  have eC := brI_eq (frm := frm) hp h8
  have eM := putI_eq (frm := frm) (by_ := w) (who := who) hq h8 h48 hni
  have ec : gapS (s 8) (endI s) (s 27 l) (s 10 1) frm (-1) (farI frm (s 27 l)) 0 m = gapS (t 2) (t 15) (t 17 l) (t 4 1) frm (-1) (farI frm (t 17 l)) 0 m := by
    rw [hlb l h8, hre 1 (by omega)]
    exact gapS_congr (fun j _ h2 => ⟨(hit j (by omega)).1, fun h5 => (le j (by omega) h5).1⟩)
  rw [ec] at eC
  rcases gapS_val (kd := t 2) (E := t 15) (to := t 17 l) (r1 := t 4 1) (frm := frm) (d := m) (i := 0) (g := -1) (l := farI frm (t 17 l)) with e | ⟨r, h1, h2, e, h5⟩
  · rw [if_pos e] at eC
    rw [if_pos (Or.inl e)] at eM
    exact Or.inl ⟨eC, eM⟩
  · have hr : r < m := by omega
    rw [e] at eC eM
    rw [if_neg (nI_m1 (by omega))] at eC
    by_cases q : ni = 12
    · rw [if_pos (Or.inr q)] at eM
      rw [q] at hsi
      rw [sadd_full_i hsi, bd2_s, if_pos rfl] at eC
      exact Or.inl ⟨eC, eM⟩
    · have hn : ni < 12 := by omega
      rw [if_neg (fun z => z.elim (nI_m1 (by omega)) q)] at eM
      rw [sadd_in_i hsi hn (by omega), bd2_s, if_neg d_1_0] at eC
      exact Or.inr ⟨hn, r, hr, by rw [(hit r hr).1]; exact h5, eC, eM⟩
def KC (s u : St) : Prop := ∀ j, ¬ (j = 24 ∨ j = 50 ∨ (13 ≤ j ∧ j ≤ 16) ∨ (19 ≤ j ∧ j ≤ 22) ∨ j = 56 ∨ j = 57) → u j = s j
def KM (t v : St) : Prop := ∀ j, ¬ ((7 ≤ j ∧ j ≤ 11) ∨ j = 48 ∨ j = 49) → v j = t j
/-- one thing more was mended -/
def Mend1 (s t u v : St) (m ni nc : Nat) : Prop := ∃ ni' nc', BB u v m ni' nc' ∧ u 50 0 = nI (cntE (v 7) 1 m) ∧ cntE (v 7) 1 m + ni' + nc' = cntE (t 7) 1 m + ni + nc + 1 ∧ KC s u ∧ KM t v
/-- nothing was mended: there is nothing, or it fails -/
def Mend0 (s t u v : St) : Prop := (∀ j, ¬ (j = 54 ∨ j = 55) → u j = s j) ∧ (∀ j, ¬ (j = 53 ∨ j = 54 ∨ j = 55) → v j = t j) ∧ ((u = s ∧ v = t) ∨ ∃ w x : Int32, ¬ w = 0 ∧ u 54 0 = w ∧ v 54 0 = w ∧ u 55 0 = x ∧ v 55 0 = x ∧ v 53 0 = 0)
theorem fail_0 {s t : St} {w x : Int32} (hw : ¬ w = 0) : Mend0 s t (si (si s 54 w) 55 x) (si (si (si t 53 0) 54 w) 55 x) :=
  ⟨fun j h => by rw [si_ne (by omega), si_ne (by omega)], fun j h => by rw [si_ne (by omega), si_ne (by omega), si_ne (by omega)], Or.inr ⟨w, x, hw, by rw [si_ne (by decide), si_at], by rw [si_ne (by decide), si_at], si_at _ _ _ _, si_at _ _ _ _, by rw [si_ne (by decide), si_ne (by decide), si_at]⟩⟩
theorem mend_con {s t : St} {m ni nc r : Nat} {x : Int32} (hb : BB s t m ni nc) (h50 : s 50 0 = nI (cntE (t 7) 1 m)) (hn : nc < 16) (hr : r < m) (h5 : s 8 r = 5) : Mend1 s t (addK_c s nc x r) (si (sa (sa t 10 nc x) 11 nc (nI r)) 49 (nI (nc + 1))) m ni nc := by
  have t7 : (si (sa (sa t 10 nc x) 11 nc (nI r)) 49 (nI (nc + 1))) 7 = t 7 := by rw [si_ne (by decide), sa_ne (by decide), sa_ne (by decide)]
  refine ⟨ni, nc + 1, BB_addC hb hn hr h5, ?_, ?_, fun j h => ?_, fun j h => ?_⟩
  · rw [t7, ← h50]
    unfold addK_c
    rw [si_ne (by decide), sa_ne (by decide), sa_ne (by decide), sa_ne (by decide), sa_ne (by decide)]
  · rw [t7]; omega
  · unfold addK_c
    rw [si_ne (by omega), sa_ne (by omega), sa_ne (by omega), sa_ne (by omega), sa_ne (by omega)]
  · rw [si_ne (by omega), sa_ne (by omega), sa_ne (by omega)]
theorem mend_isl {s t : St} {m ni nc r l : Nat} (hb : BB s t m ni nc) (h50 : s 50 0 = nI (cntE (t 7) 1 m)) (hn : ni < 12) (hr : r < m) (h5 : s 8 r = 5) (h8 : l < 8) : Mend1 s t (addK_i s ni (nI l) r) (si (sa (sa t 8 ni (nI l)) 9 ni (nI r)) 48 (nI (ni + 1))) m ni nc := by
  have t7 : (si (sa (sa t 8 ni (nI l)) 9 ni (nI r)) 48 (nI (ni + 1))) 7 = t 7 := by rw [si_ne (by decide), sa_ne (by decide), sa_ne (by decide)]
  refine ⟨ni + 1, nc, BB_addI hb hn hr h5 h8, ?_, ?_, fun j h => ?_, fun j h => ?_⟩
  · rw [t7, ← h50]
    unfold addK_i
    rw [si_ne (by decide), sa_ne (by decide), sa_ne (by decide), sa_ne (by decide), sa_ne (by decide)]
  · rw [t7]; omega
  · unfold addK_i
    rw [si_ne (by omega), sa_ne (by omega), sa_ne (by omega), sa_ne (by omega), sa_ne (by omega)]
  · rw [si_ne (by omega), sa_ne (by omega), sa_ne (by omega)]
theorem cntE_set {f : Nat → Int32} {v : Int32} {j : Nat} (hv : ¬ f j = v) : ∀ {m : Nat}, j < m → cntE (upd f j v) v m = cntE f v m + 1
  | 0, h => absurd h (Nat.not_lt_zero _)
  | m + 1, h => by
    show cntE (upd f j v) v m + (if upd f j v m = v then 1 else 0) = cntE f v m + (if f m = v then 1 else 0) + 1
    by_cases q : j = m
    · subst q
      rw [cntE_upd (Nat.le_refl _), pk_us, if_pos rfl, if_neg hv]
    · rw [cntE_set hv (show j < m by omega), pk_un (fun e => q e.symm)]; omega
theorem mend_long {s t : St} {m ni nc i : Nat} (hb : BB s t m ni nc) (h50 : s 50 0 = nI (cntE (t 7) 1 m)) (hi : i < m) (h7 : t 7 i = 0) : Mend1 s t (si (sa s 24 i 1) 50 (s 50 0 + 1)) (sa t 7 i 1) m ni nc := by
  have e7 : (sa t 7 i 1) 7 = upd (t 7) i 1 := sa_at _ _ _ _
  have hc : cntE (upd (t 7) i 1) 1 m = cntE (t 7) 1 m + 1 := cntE_set (by rw [h7]; decide) hi
  refine ⟨ni, nc, BB_long hb hi (fun j h1 h2 => by rw [si_ne h2, sa_ne h1]) (by rw [si_ne (by decide), sa_at]) (fun j h => sa_ne h) e7, ?_, ?_, fun j h => ?_, fun j h => ?_⟩
  · rw [si_at, e7, hc, h50, nI_1]
  · rw [e7, hc]; omega
  · rw [si_ne (by omega), sa_ne (by omega)]
  · rw [sa_ne (by omega)]
theorem len_in {s : St} {i : Nat} (h : i < 24) : fX2_lengthens s (nI i) = some (1, si (sa s 24 i 1) 50 (s 50 0 + 1)) := by
  unfold fX2_lengthens
  rw [if_neg (nI_pos (by omega)), if_pos (show nI i < (24 : Int32) from nI_lt (a := i) (b := 24) h (by omega)), ck_t (ckN h (by omega)), nI_clamp (by omega)]
theorem mend_both {s t : St} {m ni nc : Nat} (hl : LL s t m ni nc) (hx : LX s t m nc) (ha : ∀ j, j < m → s 28 j = aimM t ni nc j) (hia : ∀ k, k < ni → s 29 k = iaimM t ni k) (h50 : s 50 0 = nI (cntE (t 7) 1 m)) :
    (∃ u v, fX2_mendsOne s = some (1, u) ∧ fX6_mends t = some (1, v) ∧ Mend1 s t u v m ni nc) ∨ (∃ u v, fX2_mendsOne s = some (0, u) ∧ fX6_mends t = some (0, v) ∧ Mend0 s t u v) := by
  have hb := hl.1
  obtain ⟨⟨hp, hq, hit, hre, hsi, hsc, h48, h49, hki, hkc, hg, hlb, hlB⟩, l25, b25, li, bi, lc, bc, le, l53, l52, lz⟩ := id hl
  have hm := hp.1
  have hni := hsi.1
  have f1 := first_eq hl ha 2 0
  have f2 := first_eq hl ha 1 0
  have f3 := first_eq hl ha 2 1
  have f4 := ifirst_eq hl hia
  rcases fstS_val (P := strM t ni nc 2 0) (d := m) (i := 0) with e1 | ⟨i, _, hi, e1, P1⟩
  · rcases fstS_val (P := strM t ni nc 1 0) (d := m) (i := 0) with e2 | ⟨i, _, hi, e2, P2⟩
    · rcases fstS_val (P := strM t ni nc 2 1) (d := m) (i := 0) with e3 | ⟨i, _, hi, e3, P3⟩
      · rcases fstS_val (P := istM t ni) (d := ni) (i := 0) with e4 | ⟨k, _, hk, e4, P4⟩
        · refine Or.inr ⟨s, t, ?_, ?_, fun _ _ => rfl, fun _ _ => rfl, Or.inl ⟨rfl, rfl⟩⟩
          · unfold fX2_mendsOne
            rw [f1.1, bd1_s, e1, if_pos rfl, f2.1, bd1_s, e2, if_pos rfl, f3.1, bd1_s, e3, if_pos rfl, f4.1, bd1_s, e4, if_pos rfl]
          · unfold fX6_mends
            rw [f1.2, bd1_s, e1, if_pos rfl, f2.2, bd1_s, e2, if_pos rfl, f3.2, bd1_s, e3, if_pos rfl, f4.2, bd1_s, e4, if_pos rfl]
        · have hk' : k < ni := by omega
          obtain ⟨k1, _, ⟨l, h8, el⟩, _⟩ := hki k hk'
          have em : t 8 k = nI l := by rw [← k1]; exact el
          have ea : t 13 k = ad_i s k := (li k hk').symm
          have c1 := ckN (i := k) (N := 12) (by omega) (by omega)
          rcases isl_both (frm := ad_i s k) (w := 3) (who := nI k) hl h8 with ⟨g1, g2⟩ | ⟨hn, r, hr, h5, g1, g2⟩
          · refine Or.inr ⟨_, _, ?_, ?_, fail_0 (w := 3) (x := nI k) (by decide)⟩
            · unfold fX2_mendsOne
              rw [f1.1, bd1_s, e1, if_pos rfl, f2.1, bd1_s, e2, if_pos rfl, f3.1, bd1_s, e3, if_pos rfl, f4.1, bd1_s, e4, if_neg (nI_m1 (by omega)), saddr_i hsi hk', bd1_s, sname_i hsi hk', bd1_s, el, g1, bd2_s, if_pos rfl, show fX2_fails s 3 (nI k) = some (0, si (si s 54 3) 55 (nI k)) from rfl, bd2_s, if_pos rfl]
            · unfold fX6_mends
              rw [f1.2, bd1_s, e1, if_pos rfl, f2.2, bd1_s, e2, if_pos rfl, f3.2, bd1_s, e3, if_pos rfl, f4.2, bd1_s, e4, if_neg (nI_m1 (by omega)), ck_t c1, ck_t c1, nI_clamp (by omega), ea, em, g2, bd2_s, if_pos rfl]
          · refine Or.inl ⟨_, _, ?_, ?_, mend_isl hb h50 hn hr h5 h8⟩
            · unfold fX2_mendsOne
              rw [f1.1, bd1_s, e1, if_pos rfl, f2.1, bd1_s, e2, if_pos rfl, f3.1, bd1_s, e3, if_pos rfl, f4.1, bd1_s, e4, if_neg (nI_m1 (by omega)), saddr_i hsi hk', bd1_s, sname_i hsi hk', bd1_s, el, g1, bd2_s, if_neg d_1_0]
            · unfold fX6_mends
              rw [f1.2, bd1_s, e1, if_pos rfl, f2.2, bd1_s, e2, if_pos rfl, f3.2, bd1_s, e3, if_pos rfl, f4.2, bd1_s, e4, if_neg (nI_m1 (by omega)), ck_t c1, ck_t c1, nI_clamp (by omega), ea, em, g2, bd2_s, if_neg d_1_0]
      · have hi' : i < m := by omega
        have k2 := (of_decide_eq_true (show decide (t 2 i = 2 ∧ t 7 i = 1 ∧ aimM t ni nc i = -1) = true from P3)).1
        obtain ⟨l, h8, em⟩ := wf_lab (hq.2.2 i hi') k2
        have el : s 9 i = nI l := by rw [(hit i hi').2.1]; exact em
        have ea : t 12 i = s 25 i := (l25 i hi').symm
        have c1 := ckN (i := i) (N := 24) (by omega) (by omega)
        rcases isl_both (frm := s 25 i) (w := 2) (who := nI i) hl h8 with ⟨g1, g2⟩ | ⟨hn, r, hr, h5, g1, g2⟩
        · refine Or.inr ⟨_, _, ?_, ?_, fail_0 (w := 2) (x := nI i) (by decide)⟩
          · unfold fX2_mendsOne
            rw [f1.1, bd1_s, e1, if_pos rfl, f2.1, bd1_s, e2, if_pos rfl, f3.1, bd1_s, e3, if_neg (nI_m1 (by omega)), addressOf_in (by omega), bd1_s, told_in_p hp.2.1 hm hi', bd1_s, el, g1, bd2_s, if_pos rfl, show fX2_fails s 2 (nI i) = some (0, si (si s 54 2) 55 (nI i)) from rfl, bd2_s, if_pos rfl]
          · unfold fX6_mends
            rw [f1.2, bd1_s, e1, if_pos rfl, f2.2, bd1_s, e2, if_pos rfl, f3.2, bd1_s, e3, if_neg (nI_m1 (by omega)), ck_t c1, ck_t c1, nI_clamp (by omega), ea, em, g2, bd2_s, ck_t (Or.inl rfl)]
        · refine Or.inl ⟨_, _, ?_, ?_, mend_isl hb h50 hn hr h5 h8⟩
          · unfold fX2_mendsOne
            rw [f1.1, bd1_s, e1, if_pos rfl, f2.1, bd1_s, e2, if_pos rfl, f3.1, bd1_s, e3, if_neg (nI_m1 (by omega)), addressOf_in (by omega), bd1_s, told_in_p hp.2.1 hm hi', bd1_s, el, g1, bd2_s, if_neg d_1_0]
          · unfold fX6_mends
            rw [f1.2, bd1_s, e1, if_pos rfl, f2.2, bd1_s, e2, if_pos rfl, f3.2, bd1_s, e3, if_neg (nI_m1 (by omega)), ck_t c1, ck_t c1, nI_clamp (by omega), ea, em, g2, bd2_s, ck_t (Or.inr rfl)]
    · have hi' : i < m := by omega
      rcases con_both hl hx hi' with ⟨g1, g2⟩ | ⟨hn, r, hr, h5, g1, g2⟩
      · refine Or.inr ⟨_, _, ?_, ?_, fail_0 (w := 1) (x := nI i) (by decide)⟩
        · unfold fX2_mendsOne
          rw [f1.1, bd1_s, e1, if_pos rfl, f2.1, bd1_s, e2, if_neg (nI_m1 (by omega)), g1, bd2_s, if_pos rfl, show fX2_fails s 1 (nI i) = some (0, si (si s 54 1) 55 (nI i)) from rfl, bd2_s, if_pos rfl]
        · unfold fX6_mends
          rw [f1.2, bd1_s, e1, if_pos rfl, f2.2, bd1_s, e2, if_neg (nI_m1 (by omega)), g2, bd2_s, ck_t (Or.inl rfl)]
      · refine Or.inl ⟨_, _, ?_, ?_, mend_con (x := t 3 i) hb h50 hn hr h5⟩
        · unfold fX2_mendsOne
          rw [f1.1, bd1_s, e1, if_pos rfl, f2.1, bd1_s, e2, if_neg (nI_m1 (by omega)), g1, bd2_s, if_neg d_1_0]
        · unfold fX6_mends
          rw [f1.2, bd1_s, e1, if_pos rfl, f2.2, bd1_s, e2, if_neg (nI_m1 (by omega)), g2, bd2_s, ck_t (Or.inr rfl)]
  · have hi' : i < m := by omega
    have k7 := (of_decide_eq_true (show decide (t 2 i = 2 ∧ t 7 i = 0 ∧ aimM t ni nc i = -1) = true from P1)).2.1
    refine Or.inl ⟨_, _, ?_, ?_, mend_long hb h50 hi' k7⟩
    · unfold fX2_mendsOne
      rw [f1.1, bd1_s, e1, if_neg (nI_m1 (by omega)), len_in (by omega), bd2_s, ck_t (Or.inr rfl)]
    · unfold fX6_mends
      rw [f1.2, bd1_s, e1, if_neg (nI_m1 (by omega)), ck_t (ckN (by omega) (by omega)), nI_clamp (by omega)]
/-! Placing: cleared, then round by round. -/
theorem clr_i_loop : ∀ (d i : Nat) (s : St) (N : Nat), i + d = 24 → d < N → (∀ j, j < i → s 16 j = 0 ∧ s 17 j = 0) → ∃ u, fX4_clear_i_l7 N s (nI i) = some u ∧ (∀ j, j < 24 → u 16 j = 0 ∧ u 17 j = 0) ∧ (∀ j, ¬ (j = 16 ∨ j = 17) → u j = s j) := by
  intro d
  induction d with
  | zero =>
    intro i s N h hN hc
    obtain ⟨N, rfl⟩ : ∃ k, N = k + 1 := ⟨N - 1, by omega⟩
    have hi : i = 24 := by omega
    subst hi
    refine ⟨s, ?_, hc, fun _ _ => rfl⟩
    show fX4_clear_i_s7 (fX4_clear_i_l7 N) s (nI 24) = _
    unfold fX4_clear_i_s7
    rw [if_pos (show (24 : Int32) ≤ nI 24 from by decide)]
  | succ d ih =>
    intro i s N h hN hc
    obtain ⟨N, rfl⟩ : ∃ k, N = k + 1 := ⟨N - 1, by omega⟩
    have hi : i < 24 := by omega
    obtain ⟨u, e1, e2, e3⟩ := ih (i + 1) (sa (sa s 16 i 0) 17 i 0) N (by omega) (by omega) (fun j hj => by
      rw [sa_at, sa_ne (show (16 : Nat) ≠ 17 by decide), sa_at, sa_ne (show (17 : Nat) ≠ 16 by decide)]
      by_cases e : j = i
      · subst e; rw [pk_us, pk_us]; exact ⟨rfl, rfl⟩
      · rw [pk_un e, pk_un e]; exact hc j (by omega))
    refine ⟨u, ?_, e2, fun j hj => by rw [e3 j hj, sa_ne (by omega), sa_ne (by omega)]⟩
    show fX4_clear_i_s7 (fX4_clear_i_l7 N) s (nI i) = _
    unfold fX4_clear_i_s7
    have c := ckN (i := i) (N := 24) hi (by omega)
    rw [if_neg (nI24 hi), ck_t c, ck_t c, nI_clamp (by omega), nI_1]
    exact e1
theorem clr_c_loop : ∀ (d i : Nat) (s : St) (N : Nat), i + d = 24 → d < N → (∀ j, j < i → s 22 j = 0 ∧ s 23 j = 0) → ∃ u, fX4_clear_c_l7 N s (nI i) = some u ∧ (∀ j, j < 24 → u 22 j = 0 ∧ u 23 j = 0) ∧ (∀ j, ¬ (j = 22 ∨ j = 23) → u j = s j) := by
  intro d
  induction d with
  | zero =>
    intro i s N h hN hc
    obtain ⟨N, rfl⟩ : ∃ k, N = k + 1 := ⟨N - 1, by omega⟩
    have hi : i = 24 := by omega
    subst hi
    refine ⟨s, ?_, hc, fun _ _ => rfl⟩
    show fX4_clear_c_s7 (fX4_clear_c_l7 N) s (nI 24) = _
    unfold fX4_clear_c_s7
    rw [if_pos (show (24 : Int32) ≤ nI 24 from by decide)]
  | succ d ih =>
    intro i s N h hN hc
    obtain ⟨N, rfl⟩ : ∃ k, N = k + 1 := ⟨N - 1, by omega⟩
    have hi : i < 24 := by omega
    obtain ⟨u, e1, e2, e3⟩ := ih (i + 1) (sa (sa s 22 i 0) 23 i 0) N (by omega) (by omega) (fun j hj => by
      rw [sa_at, sa_ne (show (22 : Nat) ≠ 23 by decide), sa_at, sa_ne (show (23 : Nat) ≠ 22 by decide)]
      by_cases e : j = i
      · subst e; rw [pk_us, pk_us]; exact ⟨rfl, rfl⟩
      · rw [pk_un e, pk_un e]; exact hc j (by omega))
    refine ⟨u, ?_, e2, fun j hj => by rw [e3 j hj, sa_ne (by omega), sa_ne (by omega)]⟩
    show fX4_clear_c_s7 (fX4_clear_c_l7 N) s (nI i) = _
    unfold fX4_clear_c_s7
    have c := ckN (i := i) (N := 24) hi (by omega)
    rw [if_neg (nI24 hi), ck_t c, ck_t c, nI_clamp (by omega), nI_1]
    exact e1
theorem clr_l_loop : ∀ (d i : Nat) (s : St) (N : Nat), i + d = 24 → d < N → (∀ j, j < i → s 24 j = 0) → ∃ u, fX2_clear_l16 N s (nI i) = some (si (si (si (si (si (si u 50 0) 51 0) 52 0) 53 0) 54 0) 55 (-1)) ∧ (∀ j, j < 24 → u 24 j = 0) ∧ (∀ j, j ≠ 24 → u j = s j) := by
  intro d
  induction d with
  | zero =>
    intro i s N h hN hc
    obtain ⟨N, rfl⟩ : ∃ k, N = k + 1 := ⟨N - 1, by omega⟩
    have hi : i = 24 := by omega
    subst hi
    refine ⟨s, ?_, hc, fun _ _ => rfl⟩
    show fX2_clear_s16 (fX2_clear_l16 N) s (nI 24) = _
    unfold fX2_clear_s16
    rw [if_pos (show (24 : Int32) ≤ nI 24 from by decide)]
  | succ d ih =>
    intro i s N h hN hc
    obtain ⟨N, rfl⟩ : ∃ k, N = k + 1 := ⟨N - 1, by omega⟩
    have hi : i < 24 := by omega
    obtain ⟨u, e1, e2, e3⟩ := ih (i + 1) (sa s 24 i 0) N (by omega) (by omega) (fun j hj => by
      rw [sa_at]
      by_cases e : j = i
      · subst e; rw [pk_us]
      · rw [pk_un e]; exact hc j (by omega))
    refine ⟨u, ?_, e2, fun j hj => by rw [e3 j hj, sa_ne hj]⟩
    show fX2_clear_s16 (fX2_clear_l16 N) s (nI i) = _
    unfold fX2_clear_s16
    rw [if_neg (nI24 hi), ck_t (ckN (i := i) (N := 24) hi (by omega)), nI_clamp (by omega), nI_1]
    exact e1
theorem clear_eq (σ : St) : ∃ u, fX2_clear σ = some u ∧ (∀ j, j < 24 → u 16 j = 0 ∧ u 22 j = 0 ∧ u 24 j = 0) ∧ u 56 0 = 0 ∧ u 57 0 = 0 ∧ u 50 0 = 0 ∧ u 51 0 = 0 ∧ u 52 0 = 0 ∧ u 53 0 = 0 ∧ u 54 0 = 0 ∧ u 55 0 = -1 ∧ (∀ j, ¬ (j = 16 ∨ j = 17 ∨ j = 22 ∨ j = 23 ∨ j = 24 ∨ (50 ≤ j ∧ j ≤ 57)) → u j = σ j) := by
  obtain ⟨u1, a1, a2, a3⟩ := clr_i_loop 24 0 (si σ 56 0) FU (by omega) (by unfold FU; omega) (fun j hj => absurd hj (Nat.not_lt_zero _))
  obtain ⟨u2, b1, b2, b3⟩ := clr_c_loop 24 0 (si u1 57 0) FU (by omega) (by unfold FU; omega) (fun j hj => absurd hj (Nat.not_lt_zero _))
  obtain ⟨u3, c1, c2, c3⟩ := clr_l_loop 24 0 u2 FU (by omega) (by unfold FU; omega) (fun j hj => absurd hj (Nat.not_lt_zero _))
  have f : ∀ j, ¬ (50 ≤ j ∧ j ≤ 55) → (si (si (si (si (si (si u3 50 0) 51 0) 52 0) 53 0) 54 0) 55 (-1)) j = u3 j := fun j h => by rw [si_ne (by omega), si_ne (by omega), si_ne (by omega), si_ne (by omega), si_ne (by omega), si_ne (by omega)]
  refine ⟨si (si (si (si (si (si u3 50 0) 51 0) 52 0) 53 0) 54 0) 55 (-1), ?_, fun j hj => ⟨?_, ?_, ?_⟩, ?_, ?_, ?_, ?_, ?_, ?_, ?_, ?_, fun j hj => ?_⟩
  · unfold fX2_clear fX4_clear_i fX4_clear_c
    rw [show fX4_clear_i_l7 FU (si σ 56 0) 0 = some u1 from a1, bd1_s, show fX4_clear_c_l7 FU (si u1 57 0) 0 = some u2 from b1, bd1_s]
    exact c1
  · rw [f 16 (by decide), c3 16 (by decide), b3 16 (by decide), si_ne (by decide)]; exact (a2 j hj).1
  · rw [f 22 (by decide), c3 22 (by decide)]; exact (b2 j hj).1
  · rw [f 24 (by decide)]; exact c2 j hj
  · rw [f 56 (by decide), c3 56 (by decide), b3 56 (by decide), si_ne (by decide), a3 56 (by decide), si_at]
  · rw [f 57 (by decide), c3 57 (by decide), b3 57 (by decide), si_at]
  · rw [si_ne (by decide), si_ne (by decide), si_ne (by decide), si_ne (by decide), si_ne (by decide), si_at]
  · rw [si_ne (by decide), si_ne (by decide), si_ne (by decide), si_ne (by decide), si_at]
  · rw [si_ne (by decide), si_ne (by decide), si_ne (by decide), si_at]
  · rw [si_ne (by decide), si_ne (by decide), si_at]
  · rw [si_ne (by decide), si_at]
  · rw [si_at]
  · rw [f j (by omega), c3 j (by omega), b3 j (by omega), si_ne (by omega), a3 j (by omega), si_ne (by omega)]
theorem plM_loop {m : Nat} (h24 : m ≤ 24) : ∀ (d i : Nat) (t : St) (N : Nat), i + d = m → d < N → t 41 0 = nI m → (∀ j, j < i → t 7 j = 0) → ∃ v, fX6_placeAll_l32 N t (nI i) = (if m = 0 then fX6_placeAll_l66 FU v 0 else fX6_placeAll_l66 FU v 1) ∧ (∀ j, j < m → v 7 j = 0) ∧ (∀ j, j ≠ 7 → v j = t j) := by
  intro d
  induction d with
  | zero =>
    intro i t N h hN h41 hc
    obtain ⟨N, rfl⟩ : ∃ k, N = k + 1 := ⟨N - 1, by omega⟩
    have hi : i = m := by omega
    subst hi
    refine ⟨t, ?_, hc, fun _ _ => rfl⟩
    show fX6_placeAll_s32 (fX6_placeAll_l32 N) t (nI i) = _
    unfold fX6_placeAll_s32
    rw [h41, if_pos (Int32.le_refl _)]
    by_cases q : i = 0
    · subst q; rw [if_pos (show nI 0 ≤ (0 : Int32) from by decide), if_pos rfl]
    · rw [if_neg (nI_nle (by omega) (by omega)), if_neg q]
  | succ d ih =>
    intro i t N h hN h41 hc
    obtain ⟨N, rfl⟩ : ∃ k, N = k + 1 := ⟨N - 1, by omega⟩
    have hi : i < m := by omega
    obtain ⟨v, e1, e2, e3⟩ := ih (i + 1) (sa t 7 i 0) N (by omega) (by omega) (by rw [sa_ne (by decide)]; exact h41) (fun j hj => by
      rw [sa_at]
      by_cases e : j = i
      · subst e; rw [pk_us]
      · rw [pk_un e]; exact hc j (by omega))
    refine ⟨v, ?_, e2, fun j hj => by rw [e3 j hj, sa_ne hj]⟩
    show fX6_placeAll_s32 (fX6_placeAll_l32 N) t (nI i) = _
    unfold fX6_placeAll_s32
    rw [h41, if_neg (nI_ge hi (by omega)), ck_t (ckN (i := i) (N := 24) (by omega) (by omega)), nI_clamp (by omega), nI_1]
    exact e1
/-- other cells may change -/
theorem BB_to {σ τ s t : St} {m ni nc : Nat} (hb : BB σ τ m ni nc) (h : ∀ j, ((8 ≤ j ∧ j ≤ 27) ∨ j = 48 ∨ j = 56 ∨ j = 57) → s j = σ j) (g : ∀ j, ((2 ≤ j ∧ j ≤ 4) ∨ (7 ≤ j ∧ j ≤ 17) ∨ j = 41 ∨ j = 48 ∨ j = 49) → t j = τ j) : BB s t m ni nc := by
  obtain ⟨hp, hq, hit, hre, hsi, hsc, h48, h49, hki, hkc, hg, hlb, hlB⟩ := hb
  exact ⟨wfP_fr hp (h 48 (by decide)) (h 8 (by decide)) (h 9 (by decide)), ⟨hq.1, by rw [g 41 (by decide)]; exact hq.2.1, fun i hi => by rw [g 2 (by decide), g 3 (by decide)]; exact hq.2.2 i hi⟩, fun i hi => by rw [h 8 (by decide), h 9 (by decide), h 24 (by decide), g 2 (by decide), g 3 (by decide), g 7 (by decide)]; exact hit i hi, fun i hi => by rw [h 10 (by decide), g 4 (by decide)]; exact hre i hi, Sk_i_fr hsi (h 56 (by decide)) (h 14 (by decide)), Sk_c_fr hsc (h 57 (by decide)) (h 20 (by decide)), by rw [g 48 (by decide)]; exact h48, by rw [g 49 (by decide)]; exact h49, fun k hk => by rw [h 13 (by decide), h 14 (by decide), h 15 (by decide), h 8 (by decide), g 8 (by decide), g 9 (by decide)]; exact hki k hk, fun k hk => by rw [h 19 (by decide), h 20 (by decide), h 21 (by decide), h 8 (by decide), g 10 (by decide), g 11 (by decide)]; exact hkc k hk, fun r hr => by rw [h 16 (by decide), h 22 (by decide), h 14 (by decide), h 20 (by decide)]; exact hg r hr, fun l hl => by rw [h 27 (by decide), g 17 (by decide)]; exact hlb l hl, by rw [h 27 (by decide)]; exact hlB⟩
theorem LL_to {σ τ s t : St} {m ni nc : Nat} (hl : LL σ τ m ni nc) (h : ∀ j, ((8 ≤ j ∧ j ≤ 27) ∨ j = 48 ∨ j = 52 ∨ j = 53 ∨ j = 56 ∨ j = 57) → s j = σ j) (g : ∀ j, ((2 ≤ j ∧ j ≤ 4) ∨ (7 ≤ j ∧ j ≤ 17) ∨ j = 41 ∨ (48 ≤ j ∧ j ≤ 51)) → t j = τ j) : LL s t m ni nc := by
  obtain ⟨hb, l25, b25, li, bi, lc, bc, le, l53, l52, lz⟩ := hl
  have ai : ad_i s = ad_i σ := ad_i_fr (h 17 (by decide)) (h 14 (by decide)) (h 15 (by decide))
  have ac : ad_c s = ad_c σ := ad_c_fr (h 23 (by decide)) (h 20 (by decide)) (h 21 (by decide))
  have ei : endI s = endI σ := by funext r; unfold endI; rw [h 17 (by decide), h 16 (by decide)]
  have s8 := h 8 (by decide)
  exact ⟨BB_to hb (fun j hj => h j (by omega)) (fun j hj => g j (by omega)), fun j hj => by rw [h 25 (by decide), g 12 (by decide)]; exact l25 j hj, by rw [h 25 (by decide)]; exact b25, fun k hk => by rw [ai, g 13 (by decide)]; exact li k hk, by rw [ai]; exact bi, fun k hk => by rw [ac, g 14 (by decide)]; exact lc k hk, by rw [ac]; exact bc, fun r hr h5 => by rw [s8] at h5; rw [ei, h 23 (by decide), h 22 (by decide), g 15 (by decide), g 16 (by decide)]; exact le r hr h5, by rw [h 53 (by decide), g 51 (by decide)]; exact l53, by rw [h 52 (by decide), g 50 (by decide)]; exact l52, fun j hj => by rw [h 25 (by decide), h 26 (by decide), s8, h 9 (by decide), h 24 (by decide)]; exact lz j hj⟩
theorem aimM_to {τ t : St} {ni nc : Nat} (g : ∀ j, ((2 ≤ j ∧ j ≤ 4) ∨ (7 ≤ j ∧ j ≤ 17)) → t j = τ j) (i : Nat) : aimM t ni nc i = aimM τ ni nc i := by
  unfold aimM
  rw [g 2 (by decide), g 3 (by decide), g 7 (by decide), g 12 (by decide), g 17 (by decide), g 4 (by decide), g 8 (by decide), g 13 (by decide), g 10 (by decide), g 14 (by decide)]
theorem iaimM_to {τ t : St} {ni : Nat} (g : ∀ j, ((2 ≤ j ∧ j ≤ 4) ∨ (7 ≤ j ∧ j ≤ 17)) → t j = τ j) (k : Nat) : iaimM t ni k = iaimM τ ni k := by
  unfold iaimM
  rw [g 8 (by decide), g 13 (by decide), g 17 (by decide), g 4 (by decide)]
/-- placed: all is laid in the end, and what is told of it is the same -/
def Pla (u v : St) (m ni nc : Nat) : Prop := LL u v m ni nc ∧ (∀ j k, j < nc → k < nc → ad_c u j = ad_c u k → j = k) ∧ (∀ j, j < m → u 28 j = aimM v ni nc j) ∧ (∀ k, k < ni → u 29 k = iaimM v ni k) ∧ u 50 0 = nI (cntE (v 7) 1 m) ∧ u 51 0 = v 52 0 ∧ u 54 0 = v 54 0 ∧ u 55 0 = v 55 0 ∧ v 53 0 = (if u 54 0 = 0 then 1 else 0) ∧ (m = 0 → u 52 0 = 0 ∧ u 53 0 = 0)
theorem Pla_to {σ τ s t : St} {m ni nc : Nat} (hp : Pla σ τ m ni nc) (h : ∀ j, ((8 ≤ j ∧ j ≤ 29) ∨ 48 ≤ j) → s j = σ j) (g : ∀ j, ((2 ≤ j ∧ j ≤ 4) ∨ (7 ≤ j ∧ j ≤ 17) ∨ j = 41 ∨ 48 ≤ j) → t j = τ j) : Pla s t m ni nc := by
  obtain ⟨hl, hi, ha, hia, h50, h51, h54, h55, h53, h0⟩ := hp
  have ac : ad_c s = ad_c σ := ad_c_fr (h 23 (by decide)) (h 20 (by decide)) (h 21 (by decide))
  exact ⟨LL_to hl (fun j hj => h j (by omega)) (fun j hj => g j (by omega)), by rw [ac]; exact hi, fun j hj => by rw [h 28 (by decide), aimM_to (fun j hj => g j (by omega))]; exact ha j hj, fun k hk => by rw [h 29 (by decide), iaimM_to (fun j hj => g j (by omega))]; exact hia k hk, by rw [h 50 (by decide), g 7 (by decide)]; exact h50, by rw [h 51 (by decide), g 52 (by decide)]; exact h51, by rw [h 54 (by decide), g 54 (by decide)]; exact h54, by rw [h 55 (by decide), g 55 (by decide)]; exact h55, by rw [h 54 (by decide), g 53 (by decide)]; exact h53, by rw [h 52 (by decide), h 53 (by decide)]; exact h0⟩
/-- a round, with all that is known of it -/
theorem round_all {σ τ : St} {m ni nc : Nat} (h : BB σ τ m ni nc) : ∃ s0 s1 s t, fX2_lay σ = some s0 ∧ fX2_aimItems s0 = some s1 ∧ fX2_aimIslands s1 = some s ∧ fX6_layAll τ = some t ∧ LL s t m ni nc ∧ LX s t m nc ∧ (∀ j, j < m → s 28 j = aimM t ni nc j) ∧ (∀ k, k < ni → s 29 k = iaimM t ni k) ∧
    (∀ j, ¬ (j = 25 ∨ j = 26 ∨ j = 27 ∨ j = 17 ∨ j = 23 ∨ j = 53 ∨ j = 52 ∨ j = 28 ∨ j = 29) → s j = σ j) ∧ (∀ j, ¬ ((12 ≤ j ∧ j ≤ 17) ∨ j = 51 ∨ j = 50) → t j = τ j) := by
  obtain ⟨s0, s1, s, t, e1, e2, e3, e4, r1, r2, r3, r4, r5⟩ := round_aims h
  obtain ⟨s0', t', a1, a2, hl, f, g⟩ := lay_both h
  have q0 := Option.some.inj (a1.symm.trans e1)
  subst q0
  have q1 := Option.some.inj (a2.symm.trans e4)
  subst q1
  have hx := lay_more h a1 a2
  obtain ⟨⟨hp, hq, hit, hre, hsi, hsc, h48, h49, hki, hkc, hg, hlb, hlB⟩, _⟩ := id hl
  obtain ⟨s1', b1, b2, b3⟩ := aimItems_eq hp hsi hsc
  have q2 := Option.some.inj (b1.symm.trans e2)
  subst q2
  have hsi1 : Sk_i s1' ni := Sk_i_fr hsi (b2 56 (by decide)) (b2 14 (by decide))
  obtain ⟨s', c1, c2, c3⟩ := aimIslands_eq hsi1 (fun k hk => by rw [b2 13 (by decide)]; exact (hki k hk).2.2.1)
  have q3 := Option.some.inj (c1.symm.trans e3)
  subst q3
  have hf : ∀ j, j ≠ 28 → j ≠ 29 → s' j = s0' j := fun j h1 h2 => by rw [c2 j h2, b2 j h1]
  have ac : ad_c s' = ad_c s0' := ad_c_fr (hf 23 (by decide) (by decide)) (hf 20 (by decide) (by decide)) (hf 21 (by decide) (by decide))
  refine ⟨s0', s1', s', t', e1, e2, e3, e4, r1, ⟨fun i r h1 h2 h3 => ?_, ?_⟩, r2, r3, fun j hj => r4 j (by omega) (by omega) (by omega) (by omega) (by omega) (by omega) (by omega) (by omega) (by omega), fun j hj => r5 j (by omega) (by omega) (by omega) (by omega) (by omega) (by omega) (by omega) (by omega)⟩
  · rw [hf 8 (by decide) (by decide)] at h3
    rw [hf 25 (by decide) (by decide)]
    exact hx.1 i r h1 h2 h3
  · rw [ac]; exact hx.2
theorem rounds_loop {m : Nat} (hm0 : 0 < m) : ∀ (d k ni nc : Nat) (σ τ : St) (N M : Nat), k + d = 53 → d < N → d < M → BB σ τ m ni nc → σ 50 0 = nI (cntE (τ 7) 1 m) → cntE (τ 7) 1 m + ni + nc = k → σ 51 0 = nI k → τ 52 0 = nI k → σ 54 0 = 0 → τ 54 0 = 0 → σ 55 0 = -1 → τ 55 0 = -1 → τ 53 0 = 1 →
    ∃ u v, fX2_placeAll_l17 N σ 1 = some u ∧ fX6_placeAll_l66 M τ 1 = some v ∧ (∃ ni nc, Pla u v m ni nc) ∧ (∀ j, ¬ ((13 ≤ j ∧ j ≤ 29) ∨ (50 ≤ j ∧ j ≤ 57)) → u j = σ j) ∧ (∀ j, ¬ ((7 ≤ j ∧ j ≤ 17) ∨ (48 ≤ j ∧ j ≤ 55)) → v j = τ j) := by
  intro d
  induction d with
  | zero =>
    intro k ni nc σ τ N M h hN hM hb h50 hk
    have h1 := hb.1.1
    have h2 := hb.2.2.2.2.1.1
    have h3 := hb.2.2.2.2.2.1.1
    have h4 := cntE_le (f := τ 7) (v := 1) (n := m)
    omega
  | succ d ih =>
    intro k ni nc σ τ N M h hN hM hb h50 hk h51 g52 h54 g54 h55 g55 g53
    obtain ⟨N, rfl⟩ : ∃ k, N = k + 1 := ⟨N - 1, by omega⟩
    obtain ⟨M, rfl⟩ : ∃ k, M = k + 1 := ⟨M - 1, by omega⟩
    have h1 := hb.1.1
    have h2 := hb.2.2.2.2.1.1
    have h3 := hb.2.2.2.2.2.1.1
    have h4 := cntE_le (f := τ 7) (v := 1) (n := m)
    have hb' : BB (si σ 51 (σ 51 0 + 1)) (si τ 52 (τ 52 0 + 1)) m ni nc := BB_to hb (fun j hj => si_ne (by omega)) (fun j hj => si_ne (by omega))
    obtain ⟨s0, s1, s, t, a1, a2, a3, b1, hl, hx, ha, hia, f, g⟩ := round_all hb'
    have t7 : t 7 = τ 7 := by rw [g 7 (by decide), si_ne (by decide)]
    have s50 : s 50 0 = nI (cntE (t 7) 1 m) := by rw [f 50 (by decide), si_ne (by decide), t7]; exact h50
    have s51 : s 51 0 = nI (k + 1) := by rw [f 51 (by decide), si_at, h51, nI_1]
    have t52 : t 52 0 = nI (k + 1) := by rw [g 52 (by decide), si_at, g52, nI_1]
    have s54 : s 54 0 = 0 := by rw [f 54 (by decide), si_ne (by decide)]; exact h54
    have t54 : t 54 0 = 0 := by rw [g 54 (by decide), si_ne (by decide)]; exact g54
    have s55 : s 55 0 = -1 := by rw [f 55 (by decide), si_ne (by decide)]; exact h55
    have t55 : t 55 0 = -1 := by rw [g 55 (by decide), si_ne (by decide)]; exact g55
    have t53 : t 53 0 = 1 := by rw [g 53 (by decide), si_ne (by decide)]; exact g53
    have fs : ∀ j, ¬ ((13 ≤ j ∧ j ≤ 29) ∨ (50 ≤ j ∧ j ≤ 57)) → s j = σ j := fun j hj => by rw [f j (by omega), si_ne (by omega)]
    have ft : ∀ j, ¬ ((7 ≤ j ∧ j ≤ 17) ∨ (48 ≤ j ∧ j ≤ 55)) → t j = τ j := fun j hj => by rw [g j (by omega), si_ne (by omega)]
    have n53 : ¬ (53 : Int32) ≤ σ 51 0 := by rw [h51]; exact nI_ge (a := k) (b := 53) (by omega) (by omega)
    rcases mend_both hl hx ha hia s50 with ⟨u, v, m1, m2, ni', nc', hbb, u50, hcn, kc, km⟩ | ⟨u, v, m1, m2, hu, hv, hc⟩
    · obtain ⟨u', v', p1, p2, p3, p4, p5⟩ := ih (k + 1) ni' nc' u v N M (by omega) (by omega) (by omega) hbb u50 (by rw [t7] at hcn; omega) (by rw [kc 51 (by decide)]; exact s51) (by rw [km 52 (by decide)]; exact t52) (by rw [kc 54 (by decide)]; exact s54) (by rw [km 54 (by decide)]; exact t54) (by rw [kc 55 (by decide)]; exact s55) (by rw [km 55 (by decide)]; exact t55) (by rw [km 53 (by decide)]; exact t53)
      refine ⟨u', v', ?_, ?_, p3, fun j hj => by rw [p4 j hj, kc j (by omega), fs j hj], fun j hj => by rw [p5 j hj, km j (by omega), ft j hj]⟩
      · show fX2_placeAll_s17 (fX2_placeAll_l17 N) σ 1 = _
        unfold fX2_placeAll_s17
        rw [if_neg d_1_0, if_neg n53, a1, bd1_s, a2, bd1_s, a3, bd1_s, m1, bd2_s]
        exact p1
      · show fX6_placeAll_s66 (fX6_placeAll_l66 M) τ 1 = _
        unfold fX6_placeAll_s66
        rw [if_neg d_1_0, b1, bd1_s, m2, bd2_s]
        exact p2
    · obtain ⟨N, rfl⟩ : ∃ k, N = k + 1 := ⟨N - 1, by omega⟩
      obtain ⟨M, rfl⟩ : ∃ k, M = k + 1 := ⟨M - 1, by omega⟩
      have ac : ad_c u = ad_c s := ad_c_fr (hu 23 (by decide)) (hu 20 (by decide)) (hu 21 (by decide))
      have h45 : u 54 0 = v 54 0 ∧ u 55 0 = v 55 0 ∧ v 53 0 = (if u 54 0 = 0 then 1 else 0) := by
        rcases hc with ⟨rfl, rfl⟩ | ⟨w, x, hw, c1, c2, c3, c4, c5⟩
        · exact ⟨by rw [s54, t54], by rw [s55, t55], by rw [s54, t53, if_pos rfl]⟩
        · exact ⟨by rw [c1, c2], by rw [c3, c4], by rw [c1, c5, if_neg hw]⟩
      refine ⟨u, v, ?_, ?_, ⟨ni, nc, LL_to hl (fun j hj => hu j (by omega)) (fun j hj => hv j (by omega)), by rw [ac]; exact hx.2, fun j hj => by rw [hu 28 (by decide), aimM_to (fun j hj => hv j (by omega))]; exact ha j hj, fun k hk => by rw [hu 29 (by decide), iaimM_to (fun j hj => hv j (by omega))]; exact hia k hk, by rw [hu 50 (by decide), hv 7 (by decide)]; exact s50, by rw [hu 51 (by decide), hv 52 (by decide), s51, t52], h45.1, h45.2.1, h45.2.2, fun z => absurd z (by omega)⟩, fun j hj => by rw [hu j (by omega), fs j hj], fun j hj => by rw [hv j (by omega), ft j hj]⟩
      · show fX2_placeAll_s17 (fX2_placeAll_l17 (N + 1)) σ 1 = _
        unfold fX2_placeAll_s17
        rw [if_neg d_1_0, if_neg n53, a1, bd1_s, a2, bd1_s, a3, bd1_s, m1, bd2_s]
        show fX2_placeAll_s17 (fX2_placeAll_l17 N) u 0 = _
        unfold fX2_placeAll_s17
        rw [if_pos rfl]
      · show fX6_placeAll_s66 (fX6_placeAll_l66 (M + 1)) τ 1 = _
        unfold fX6_placeAll_s66
        rw [if_neg d_1_0, b1, bd1_s, m2, bd2_s]
        show fX6_placeAll_s66 (fX6_placeAll_l66 M) v 0 = _
        unfold fX6_placeAll_s66
        rw [if_pos rfl]
/-- placeAll: both come to the same end -/
theorem place_both {σ τ : St} {m : Nat} (hpr : RPr σ τ m) (hre : ∀ i, i < 3 → σ 10 i = τ 4 i) (hlb : ∀ l, l < 8 → σ 27 l = τ 17 l) (hlB : Bd (σ 27) 8) (h0 : m = 0 → τ 50 0 = 0 ∧ τ 51 0 = 0) :
    ∃ u v, fX2_placeAll σ = some u ∧ fX6_placeAll τ = some v ∧ (∃ ni nc, Pla u v m ni nc) ∧ (∀ j, ¬ ((13 ≤ j ∧ j ≤ 29) ∨ (50 ≤ j ∧ j ≤ 57)) → u j = σ j) ∧ (∀ j, ¬ ((7 ≤ j ∧ j ≤ 17) ∨ (48 ≤ j ∧ j ≤ 55)) → v j = τ j) := by
  obtain ⟨h24, hs, ht, hit, hgp⟩ := hpr
  obtain ⟨u, a1, a2, a56, a57, a50, a51, a52, a53, a54, a55, af⟩ := clear_eq σ
  have bt : ∀ j, ¬ (j = 48 ∨ j = 49 ∨ (52 ≤ j ∧ j ≤ 55)) → (si (si (si (si (si (si τ 48 0) 49 0) 52 0) 53 1) 54 0) 55 (-1)) j = τ j := fun j hj => by rw [si_ne (by omega), si_ne (by omega), si_ne (by omega), si_ne (by omega), si_ne (by omega), si_ne (by omega)]
  obtain ⟨v, b1, b7, bf⟩ := plM_loop h24 m 0 (si (si (si (si (si (si τ 48 0) 49 0) 52 0) 53 1) 54 0) 55 (-1)) FU (by omega) (by unfold FU; omega) (by rw [bt 41 (by decide)]; exact ht) (fun j hj => absurd hj (Nat.not_lt_zero _))
  have vf : ∀ j, ¬ (j = 7 ∨ j = 48 ∨ j = 49 ∨ (52 ≤ j ∧ j ≤ 55)) → v j = τ j := fun j hj => by rw [bf j (by omega), bt j (by omega)]
  have v48 : v 48 0 = 0 := by rw [bf 48 (by decide), si_ne (by decide), si_ne (by decide), si_ne (by decide), si_ne (by decide), si_ne (by decide), si_at]
  have v49 : v 49 0 = 0 := by rw [bf 49 (by decide), si_ne (by decide), si_ne (by decide), si_ne (by decide), si_ne (by decide), si_at]
  have v52 : v 52 0 = 0 := by rw [bf 52 (by decide), si_ne (by decide), si_ne (by decide), si_ne (by decide), si_at]
  have v53 : v 53 0 = 1 := by rw [bf 53 (by decide), si_ne (by decide), si_ne (by decide), si_at]
  have v54 : v 54 0 = 0 := by rw [bf 54 (by decide), si_ne (by decide), si_at]
  have v55 : v 55 0 = -1 := by rw [bf 55 (by decide), si_at]
  have hb : BB u v m 0 0 := by
    refine ⟨⟨h24, by rw [af 48 (by decide)]; exact hs, fun i hi => by rw [af 8 (by decide), af 9 (by decide)]; exact (hit i hi).2.2⟩, ⟨h24, by rw [vf 41 (by decide)]; exact ht, fun i hi => by rw [vf 2 (by decide), vf 3 (by decide), ← (hit i hi).1, ← (hit i hi).2.1]; exact (hit i hi).2.2⟩, fun i hi => ⟨by rw [af 8 (by decide), vf 2 (by decide)]; exact (hit i hi).1, by rw [af 9 (by decide), vf 3 (by decide)]; exact (hit i hi).2.1, by rw [(a2 i (by omega)).2.2, b7 i hi], Or.inl (b7 i hi)⟩, fun i hi => by rw [af 10 (by decide), vf 4 (by decide)]; exact hre i hi, ⟨by omega, by rw [a56]; rfl, fun k hk => absurd hk (Nat.not_lt_zero _)⟩, ⟨by omega, by rw [a57]; rfl, fun k hk => absurd hk (Nat.not_lt_zero _)⟩, by rw [v48]; rfl, by rw [v49]; rfl, fun k hk => absurd hk (Nat.not_lt_zero _), fun k hk => absurd hk (Nat.not_lt_zero _), fun r hr => ⟨by rw [(a2 r hr).1]; rfl, by rw [(a2 r hr).2.1]; rfl⟩, fun l hl => by rw [af 27 (by decide), vf 17 (by decide)]; exact hlb l hl, by rw [af 27 (by decide)]; exact hlB⟩
  have e7 : cntE (v 7) 1 m = 0 := by
    have hz : ∀ n, n ≤ m → cntE (v 7) 1 n = 0 := by
      intro n
      induction n with
      | zero => intro _; rfl
      | succ n ih =>
        intro hn
        show cntE (v 7) 1 n + (if v 7 n = 1 then 1 else 0) = 0
        rw [ih (by omega), b7 n (by omega), if_neg d_0_1]
    exact hz m (Nat.le_refl _)
  have hsz : fX0_size_p u = some (nI m) := by unfold fX0_size_p; rw [af 48 (by decide), hs]
  have fu : ∀ j, ¬ ((13 ≤ j ∧ j ≤ 29) ∨ (50 ≤ j ∧ j ≤ 57)) → u j = σ j := fun j hj => af j (by omega)
  have fv : ∀ j, ¬ ((7 ≤ j ∧ j ≤ 17) ∨ (48 ≤ j ∧ j ≤ 55)) → v j = τ j := fun j hj => vf j (by omega)
  by_cases q : m = 0
  · subst q
    obtain ⟨z1, z2⟩ := h0 rfl
    refine ⟨u, v, ?_, ?_, ⟨0, 0, ⟨hb, fun j hj => absurd hj (Nat.not_lt_zero _), fun j hj => absurd hj (Nat.not_lt_zero _), fun j hj => absurd hj (Nat.not_lt_zero _), fun j hj => absurd hj (Nat.not_lt_zero _), fun j hj => absurd hj (Nat.not_lt_zero _), fun j hj => absurd hj (Nat.not_lt_zero _), fun j hj => absurd hj (Nat.not_lt_zero _), by rw [a53, vf 51 (by decide), z2], by rw [a52, vf 50 (by decide), z1], fun j hj => absurd hj (Nat.not_lt_zero _)⟩, fun j k hj => absurd hj (Nat.not_lt_zero _), fun j hj => absurd hj (Nat.not_lt_zero _), fun j hj => absurd hj (Nat.not_lt_zero _), by rw [a50]; rfl, by rw [a51, v52], by rw [a54, v54], by rw [a55, v55], by rw [a54, v53, if_pos rfl], fun _ => ⟨a52, a53⟩⟩, fu, fv⟩
    · unfold fX2_placeAll
      rw [a1, bd1_s, hsz, bd1_s, if_pos (show nI 0 = (0 : Int32) from by decide)]
    · unfold fX6_placeAll
      rw [show fX6_placeAll_l32 FU (si (si (si (si (si (si τ 48 0) 49 0) 52 0) 53 1) 54 0) 55 (-1)) 0 = _ from b1, if_pos rfl]
      show fX6_placeAll_s66 (fX6_placeAll_l66 3999) v 0 = _
      unfold fX6_placeAll_s66
      rw [if_pos rfl]
  · obtain ⟨u', v', p1, p2, p3, p4, p5⟩ := rounds_loop (m := m) (by omega) 53 0 0 0 u v FU FU (by omega) (by unfold FU; omega) (by unfold FU; omega) hb (by rw [a50, e7]; rfl) (by rw [e7]) (by rw [a51]; rfl) (by rw [v52]; rfl) a54 v54 a55 v55 v53
    refine ⟨u', v', ?_, ?_, p3, fun j hj => by rw [p4 j hj, fu j hj], fun j hj => by rw [p5 j hj, fv j hj]⟩
    · unfold fX2_placeAll
      rw [a1, bd1_s, hsz, bd1_s, if_neg (nI_ne0 (by omega) (by omega))]
      exact p1
    · unfold fX6_placeAll
      rw [show fX6_placeAll_l32 FU (si (si (si (si (si (si τ 48 0) 49 0) 52 0) 53 1) 54 0) 55 (-1)) 0 = _ from b1, if_neg q]
      exact p2
/-! Between calls: what class and reference have in common; the calls that change something. -/
def Inv (σ τ : St) : Prop := ∃ n m ni nc, RPg σ τ n ∧ RPr σ τ m ∧ Pla σ τ m ni nc ∧ σ 40 0 = τ 42 0 ∧ σ 41 0 = τ 43 0
theorem inv_letter {σ τ : St} (h : Inv σ τ) (x : Int32) : ∃ r s t, fX5_letter σ x = some (r, s) ∧ fX6_letter τ x = some (r, t) ∧ Inv s t := by
  obtain ⟨n, m, ni, nc, hg, hr, hp, h40, h41⟩ := h
  obtain ⟨r, s, t, n', e1, e2, g', f, g⟩ := eq_letter hg x
  exact ⟨r, s, t, e1, e2, n', m, ni, nc, g', RPr_to hr (f 8 (by decide) (by decide)) (f 9 (by decide) (by decide)) (f 48 (by decide) (by decide)) (f 49 (by decide) (by decide)) (g 2 (by decide) (by decide)) (g 3 (by decide) (by decide)) (g 41 (by decide) (by decide)), Pla_to hp (fun j hj => f j (by omega) (by omega)) (fun j hj => g j (by omega) (by omega)), by rw [f 40 (by decide) (by decide), g 42 (by decide) (by decide)]; exact h40, by rw [f 41 (by decide) (by decide), g 43 (by decide) (by decide)]; exact h41⟩
theorem inv_blank {σ τ : St} (h : Inv σ τ) : ∃ r s t, fX5_blank σ = some (r, s) ∧ fX6_blank τ = some (r, t) ∧ Inv s t := by
  obtain ⟨n, m, ni, nc, hg, hr, hp, h40, h41⟩ := h
  obtain ⟨r, s, t, e1, e2, g', f, g⟩ := eq_blank hg
  exact ⟨r, s, t, e1, e2, 0, m, ni, nc, g', RPr_to hr (f 8 (by decide)) (f 9 (by decide)) (f 48 (by decide)) (f 49 (by decide)) (g 2 (by decide)) (g 3 (by decide)) (g 41 (by decide)), Pla_to hp (fun j hj => f j (by omega)) (fun j hj => g j (by omega)), by rw [f 40 (by decide), g 42 (by decide)]; exact h40, by rw [f 41 (by decide), g 43 (by decide)]; exact h41⟩
/-- reading changes nothing that is asked of later -/
theorem Inv_read {σ τ s t : St} (h : Inv σ τ) (f : frC σ s) (g : frM τ t) : Inv s t := by
  obtain ⟨n, m, ni, nc, hg, hr, hp, h40, h41⟩ := h
  have f' : ∀ j, ¬ (j = 5 ∨ j = 6 ∨ (43 ≤ j ∧ j ≤ 47)) → s j = σ j := fun j hj => f j (by omega) (by omega) (by omega) (by omega) (by omega) (by omega) (by omega)
  have g' : ∀ j, ¬ (j = 5 ∨ j = 6 ∨ (44 ≤ j ∧ j ≤ 47)) → t j = τ j := fun j hj => g j (by omega) (by omega) (by omega) (by omega) (by omega) (by omega)
  exact ⟨n, m, ni, nc, RPg_to hg (f' 42 (by decide)) (f' 2 (by decide)) (g' 40 (by decide)) (g' 1 (by decide)), RPr_to hr (f' 8 (by decide)) (f' 9 (by decide)) (f' 48 (by decide)) (f' 49 (by decide)) (g' 2 (by decide)) (g' 3 (by decide)) (g' 41 (by decide)), Pla_to hp (fun j hj => f' j (by omega)) (fun j hj => g' j (by omega)), by rw [f' 40 (by decide), g' 42 (by decide)]; exact h40, by rw [f' 41 (by decide), g' 43 (by decide)]; exact h41⟩
/-- fault: both answer (perhaps otherwise), and nothing that is asked of later changes -/
theorem inv_fault {σ τ : St} (h : Inv σ τ) : ∃ r q s t, fX5_fault σ = some (r, s) ∧ fX6_fault τ = some (q, t) ∧ Inv s t := by
  obtain ⟨n, m, ni, nc, hg, hr, hp, h40, h41⟩ := id h
  obtain ⟨p, s, q, t, e1, e2, f, g, _⟩ := eq_read hg
  refine ⟨p, q, s, t, ?_, ?_, Inv_read h f g⟩
  · unfold fX5_fault; rw [e1, bd2_s]
  · unfold fX6_fault; rw [e2, bd2_s]
theorem inv_code {σ τ : St} (h : Inv σ τ) : ∃ r s t, fX5_code σ = some (r, s) ∧ fX6_code τ = some (r, t) ∧ Inv s t := by
  obtain ⟨n, m, ni, nc, hg, hr, hp, h40, h41⟩ := id h
  rcases code_split hg with ⟨s, t, e1, e2, f, g⟩ | ⟨s, t, m', hm', e1, e2, hr', hg', s40, t42, f, g⟩
  · exact ⟨-1003, s, t, e1, e2, Inv_read h f g⟩
  · obtain ⟨⟨⟨_, _, _, hre, _, _, _, _, _, _, _, hlb, hlB⟩, _⟩, _⟩ := hp
    obtain ⟨u, v, p1, p2, ⟨ni', nc', hpl⟩, fu, fv⟩ := place_both hr' (fun i hi => by rw [f 10 (by decide), g 4 (by decide)]; exact hre i hi) (fun l hl => by rw [f 27 (by decide), g 17 (by decide)]; exact hlb l hl) (by rw [f 27 (by decide)]; exact hlB) (fun z => absurd z (by omega))
    have u48 : u 48 0 = nI m' := by rw [fu 48 (by decide)]; exact hr'.2.1
    have v41 : v 41 0 = nI m' := by rw [fv 41 (by decide)]; exact hr'.2.2.1
    refine ⟨nI m', u, v, ?_, ?_, 0, m', ni', nc', RPg_to hg' (fu 42 (by decide)) (fu 2 (by decide)) (fv 40 (by decide)) (fv 1 (by decide)), RPr_to hr' (fu 8 (by decide)) (fu 9 (by decide)) (fu 48 (by decide)) (fu 49 (by decide)) (fv 2 (by decide)) (fv 3 (by decide)) (fv 41 (by decide)), hpl, ?_, ?_⟩
    · rw [e1, p1, bd1_s]
      unfold fX0_size_p
      rw [bd1_s, u48]
    · rw [e2, p2, bd1_s, v41]
    · rw [fu 40 (by decide), fv 42 (by decide), s40, t42, h40]
    · rw [fu 41 (by decide), fv 43 (by decide), f 41 (by decide), g 43 (by decide)]; exact h41
theorem inv_reach {σ τ : St} (h : Inv σ τ) (x1 x2 : Int32) : ∃ r s t, fX5_reach σ x1 x2 = some (r, s) ∧ fX6_reach τ x1 x2 = some (r, t) ∧ Inv s t := by
  by_cases c0 : x1 < 0
  · refine ⟨-1002, σ, τ, if_pos c0, ?_, h⟩
    unfold fX6_reach
    rw [within_lo c0, bd1_s, if_pos rfl]
  by_cases c2 : x1 ≤ (2 : Int32)
  · obtain ⟨k, hk, rfl⟩ := nI_of2 (M := 2) (n := 2) rfl c0 c2
    have c1 := ckN (i := k) (N := 3) (by omega) (by omega)
    have eM : fX6_reach τ (nI k) x2 = fX6_reach_b30 τ (nI k) x2 (mr k) (lr k) x2 := by
      unfold fX6_reach
      rw [within_in c0 (by rw [Int32.not_lt]; exact c2), bd1_s, if_neg d_1_0]
      unfold fX6_reach_b19 mr lr
      by_cases q : k = 0
      · subst q
        rw [if_pos (show nI 0 = (0 : Int32) from by decide), if_pos (show nI 0 = (0 : Int32) from by decide), if_pos rfl, if_pos rfl]
      · rw [if_neg (nI_ne0 (by omega) (by omega)), if_neg (nI_ne0 (by omega) (by omega)), if_neg q, if_neg q]
    rw [eM]
    unfold fX6_reach_b30
    by_cases c3 : x2 < lr k
    · refine ⟨-1002, σ, τ, ?_, ?_, h⟩
      · unfold fX5_reach
        rw [if_neg c0, if_pos c2, ck_t c1, nI_clamp (by omega), if_pos c3]
      · rw [within_lo c3, bd1_s, if_pos rfl]
    by_cases c4 : x2 ≤ mr k
    · obtain ⟨n, m, ni, nc, hg, hr, hp, h40, h41⟩ := id h
      obtain ⟨⟨⟨_, _, _, hre, _, _, _, _, _, _, _, hlb, hlB⟩, _, _, _, _, _, _, _, l53, l52, _⟩, _, _, _, _, _, _, _, _, h0⟩ := hp
      have f : ∀ j, ¬ (j = 10 ∨ j = 41) → (si (sa σ 10 k x2) 41 (σ 41 0 + 1)) j = σ j := fun j hj => by rw [si_ne (by omega), sa_ne (by omega)]
      have g : ∀ j, ¬ (j = 4 ∨ j = 43) → (si (sa τ 4 k x2) 43 (τ 43 0 + 1)) j = τ j := fun j hj => by rw [si_ne (by omega), sa_ne (by omega)]
      have hr' : RPr (si (sa σ 10 k x2) 41 (σ 41 0 + 1)) (si (sa τ 4 k x2) 43 (τ 43 0 + 1)) m := RPr_to hr (f 8 (by decide)) (f 9 (by decide)) (f 48 (by decide)) (f 49 (by decide)) (g 2 (by decide)) (g 3 (by decide)) (g 41 (by decide))
      obtain ⟨u, v, p1, p2, ⟨ni', nc', hpl⟩, fu, fv⟩ := place_both hr' (fun i hi => by
        rw [si_ne (by decide), sa_at, si_ne (by decide), sa_at]
        by_cases q : i = k
        · subst q; rw [pk_us, pk_us]
        · rw [pk_un q, pk_un q]; exact hre i hi) (fun l hl => by rw [f 27 (by decide), g 17 (by decide)]; exact hlb l hl) (by rw [f 27 (by decide)]; exact hlB) (fun z => by rw [g 50 (by decide), g 51 (by decide), ← l53, ← l52]; exact h0 z)
      refine ⟨σ 10 k, u, v, ?_, ?_, n, m, ni', nc', RPg_to hg (by rw [fu 42 (by decide), f 42 (by decide)]) (by rw [fu 2 (by decide), f 2 (by decide)]) (by rw [fv 40 (by decide), g 40 (by decide)]) (by rw [fv 1 (by decide), g 1 (by decide)]), RPr_to hr' (fu 8 (by decide)) (fu 9 (by decide)) (fu 48 (by decide)) (fu 49 (by decide)) (fv 2 (by decide)) (fv 3 (by decide)) (fv 41 (by decide)), hpl, by rw [fu 40 (by decide), f 40 (by decide), fv 42 (by decide), g 42 (by decide)]; exact h40, by rw [fu 41 (by decide), si_at, fv 43 (by decide), si_at, h41]⟩
      · unfold fX5_reach
        rw [if_neg c0, if_pos c2, ck_t c1, nI_clamp (by omega), if_neg c3]
        rw [nI_clamp (by omega)] at c1
        rw [ck_t (by exact c1), if_pos c4, ck_t (by exact c1), ck_t (by exact c1), p1, bd1_s]
      · rw [within_in c3 (by rw [Int32.not_lt]; exact c4), bd1_s, if_neg d_1_0, ck_t c1, ck_t c1, nI_clamp (by omega), p2, bd1_s, hre k (by omega)]
    · refine ⟨-1002, σ, τ, ?_, ?_, h⟩
      · unfold fX5_reach
        rw [if_neg c0, if_pos c2, ck_t c1, nI_clamp (by omega), if_neg c3]
        rw [nI_clamp (by omega)] at c1
        rw [ck_t (by exact c1), if_neg c4]
      · rw [within_hi (by rw [← Int32.not_le]; exact c4), bd1_s, if_pos rfl]
  · refine ⟨-1002, σ, τ, ?_, ?_, h⟩
    · unfold fX5_reach
      rw [if_neg c0, if_neg c2]
    · unfold fX6_reach
      rw [within_hi (by rw [← Int32.not_le]; exact c2), bd1_s, if_pos rfl]
theorem win_in {τ : St} {n i : Nat} (hn : n < 2 ^ 30) (hi : i < n) : fX6_within τ (nI i) 0 (nI n - 1) = some 1 := by
  obtain ⟨k, rfl⟩ : ∃ k, n = k + 1 := ⟨n - 1, by omega⟩
  rw [nI_pred]
  exact within_in (nI_pos (by omega)) (nI_nlt (by omega) (by omega))
theorem win_out {τ : St} {n : Nat} {x : Int32} (hn : n < 2 ^ 30) (hx : ¬ ∃ i, i < n ∧ x = nI i) : fX6_within τ x 0 (nI n - 1) = some 0 := by
  rcases pk_ix x (n := n) (by omega) with h1 | h1 | h1
  · exact within_lo h1
  · refine within_hi ?_
    have e := pk_sub_toInt (a := n) (b := 1) hn (by omega)
    have e2 : (nI n).toInt = (n : Int) := nI_toInt (by omega)
    rw [Int32.le_iff_toInt_le, e2] at h1
    rw [Int32.lt_iff_toInt_lt, show (1 : Int32) = nI 1 from rfl, e]
    omega
  · exact absurd h1 hx
theorem isItem_in {τ : St} {m i : Nat} (h24 : m ≤ 24) (h41 : τ 41 0 = nI m) (hi : i < m) : fX6_isItem τ (nI i) = some 1 := by
  unfold fX6_isItem
  rw [h41, win_in (by omega) hi, bd1_s, ck_t (Or.inr rfl)]
theorem isItem_out {τ : St} {m : Nat} {x : Int32} (h24 : m ≤ 24) (h41 : τ 41 0 = nI m) (hx : ¬ ∃ i, i < m ∧ x = nI i) : fX6_isItem τ x = some 0 := by
  unfold fX6_isItem
  rw [h41, win_out (by omega) hx, bd1_s, ck_t (Or.inl rfl)]
theorem inv_grow {σ τ : St} (h : Inv σ τ) (x1 x2 : Int32) : ∃ r s t, fX5_grow σ x1 x2 = some (r, s) ∧ fX6_grow τ x1 x2 = some (r, t) ∧ Inv s t := by
  obtain ⟨n, m, ni, nc, hg, hr, hp, h40, h41⟩ := id h
  obtain ⟨h24, hs, ht, hit, hgp⟩ := id hr
  by_cases hx : ∃ i, i < m ∧ x1 = nI i
  · obtain ⟨i, hi, rfl⟩ := hx
    have hh := has_in_p hs h24 hi
    have c1 := ckN (i := i) (N := 24) (by omega) (by omega)
    unfold fX5_grow fX6_grow
    rw [hh, isItem_in h24 ht hi, bd1_s, bd1_s, if_neg d_1_0, if_neg d_1_0]
    by_cases c3 : x2 < (1 : Int32)
    · refine ⟨-1002, σ, τ, ?_, ?_, h⟩
      · rw [if_pos c3]
      · rw [within_lo c3, bd1_s, if_pos rfl]
    by_cases c4 : x2 ≤ (40 : Int32)
    · have hw : fX6_within τ x2 1 40 = some 1 := within_in c3 (by rw [Int32.not_lt]; exact c4)
      rw [if_neg c3, if_pos c4, kind_in_p hs h24 hi, hw, bd1_s, bd1_s, if_neg d_1_0, ck_t c1, nI_clamp (by omega), ← (hit i hi).1]
      by_cases c5 : σ 8 i = 0
      · have c1' : ¬ (nI i < 0 ∨ 24 ≤ i) := by rw [nI_clamp (by omega)] at c1; exact c1
        have c00 : ¬ x2 < 0 := fun z => c3 (by rw [Int32.lt_iff_toInt_lt] at z ⊢; have e0 : (0 : Int32).toInt = 0 := rfl; have e1 : (1 : Int32).toInt = 1 := rfl; omega)
        obtain ⟨b, hb, eb⟩ := nI_of2 (M := 40) (n := 40) rfl c00 c4
        have hb1 : 1 ≤ b := by
          rcases Nat.eq_zero_or_pos b with z | z
          · subst z; exact absurd (show x2 < 1 from by rw [eb]; decide) c3
          · exact z
        obtain ⟨⟨⟨_, _, _, hre, _, _, _, _, _, _, _, hlb, hlB⟩, _, _, _, _, _, _, _, l53, l52, _⟩, _, _, _, _, _, _, _, _, h0⟩ := hp
        have f : ∀ j, ¬ (j = 9 ∨ j = 41) → (si (sa σ 9 i x2) 41 ((sa σ 9 i x2) 41 0 + 1)) j = σ j := fun j hj => by rw [si_ne (by omega), sa_ne (by omega)]
        have g : ∀ j, ¬ (j = 3 ∨ j = 43) → (si (sa τ 3 i x2) 43 (τ 43 0 + 1)) j = τ j := fun j hj => by rw [si_ne (by omega), sa_ne (by omega)]
        have f9 : (si (sa σ 9 i x2) 41 ((sa σ 9 i x2) 41 0 + 1)) 9 = upd (σ 9) i x2 := by rw [si_ne (by decide), sa_at]
        have g3 : (si (sa τ 3 i x2) 43 (τ 43 0 + 1)) 3 = upd (τ 3) i x2 := by rw [si_ne (by decide), sa_at]
        have hr' : RPr (si (sa σ 9 i x2) 41 ((sa σ 9 i x2) 41 0 + 1)) (si (sa τ 3 i x2) 43 (τ 43 0 + 1)) m := by
          refine ⟨h24, by rw [f 48 (by decide)]; exact hs, by rw [g 41 (by decide)]; exact ht, fun j hj => ?_, by rw [f 49 (by decide), f 8 (by decide)]; exact hgp⟩
          rw [f 8 (by decide), g 2 (by decide), f9, g3]
          by_cases q : j = i
          · subst q
            rw [pk_us, pk_us]
            exact ⟨(hit j hj).1, rfl, 0, b, by rw [c5]; rfl, eb, Or.inl ⟨rfl, hb1, hb⟩⟩
          · rw [pk_un q, pk_un q]; exact hit j hj
        obtain ⟨u, v, p1, p2, ⟨ni', nc', hpl⟩, fu, fv⟩ := place_both hr' (fun i hi => by rw [f 10 (by decide), g 4 (by decide)]; exact hre i hi) (fun l hl => by rw [f 27 (by decide), g 17 (by decide)]; exact hlb l hl) (by rw [f 27 (by decide)]; exact hlB) (fun z => by rw [g 50 (by decide), g 51 (by decide), ← l53, ← l52]; exact h0 z)
        refine ⟨σ 9 i, u, v, ?_, ?_, n, m, ni', nc', RPg_to hg (by rw [fu 42 (by decide), f 42 (by decide)]) (by rw [fu 2 (by decide), f 2 (by decide)]) (by rw [fv 40 (by decide), g 40 (by decide)]) (by rw [fv 1 (by decide), g 1 (by decide)]), RPr_to hr' (fu 8 (by decide)) (fu 9 (by decide)) (fu 48 (by decide)) (fu 49 (by decide)) (fv 2 (by decide)) (fv 3 (by decide)) (fv 41 (by decide)), hpl, by rw [fu 40 (by decide), f 40 (by decide), fv 42 (by decide), g 42 (by decide)]; exact h40, by rw [fu 41 (by decide), si_at, fv 43 (by decide), si_at, sa_ne (by decide), h41]⟩
        · have ht : fX0_tell_p σ (nI i) x2 = some (sa σ 9 i x2) := by
            unfold fX0_tell_p
            rw [hh, bd1_s, if_neg d_1_0, ck_t c1, nI_clamp (by omega)]
          rw [if_pos c5, told_in_p hs h24 hi, bd1_s, ht, bd1_s, p1, bd1_s]
        · rw [if_pos c5, ck_t c1', ck_t c1', p2, bd1_s, (hit i hi).2.1]
      · exact ⟨-1003, σ, τ, by rw [if_neg c5], by rw [if_neg c5], h⟩
    · refine ⟨-1002, σ, τ, ?_, ?_, h⟩
      · rw [if_neg c3, if_neg c4]
      · rw [within_hi (by rw [← Int32.not_le]; exact c4), bd1_s, if_pos rfl]
  · refine ⟨-1001, σ, τ, ?_, ?_, h⟩
    · unfold fX5_grow
      rw [has_out_p hs h24 hx, bd1_s, if_pos rfl]
    · unfold fX6_grow
      rw [isItem_out h24 ht hx, bd1_s, if_pos rfl]
/-! What is asked: items, islands, constants. -/
theorem win4_in {τ : St} {j : Nat} (hj : j < 4) : fX6_within τ (nI j) 0 3 = some 1 := by
  have h := win_in (τ := τ) (n := 4) (i := j) (by omega) hj
  rwa [show nI 4 - (1 : Int32) = 3 from by decide] at h
theorem win4_out {τ : St} {x : Int32} (hx : ¬ ∃ j, j < 4 ∧ x = nI j) : fX6_within τ x 0 3 = some 0 := by
  have h := win_out (τ := τ) (n := 4) (x := x) (by omega) hx
  rwa [show nI 4 - (1 : Int32) = 3 from by decide] at h
theorem win6_in {τ : St} {j : Nat} (hj : j < 6) : fX6_within τ (nI j) 0 5 = some 1 := by
  have h := win_in (τ := τ) (n := 6) (i := j) (by omega) hj
  rwa [show nI 6 - (1 : Int32) = 5 from by decide] at h
theorem win6_out {τ : St} {x : Int32} (hx : ¬ ∃ j, j < 6 ∧ x = nI j) : fX6_within τ x 0 5 = some 0 := by
  have h := win_out (τ := τ) (n := 6) (x := x) (by omega) hx
  rwa [show nI 6 - (1 : Int32) = 5 from by decide] at h
theorem win9_in {τ : St} {j : Nat} (hj : j < 9) : fX6_within τ (nI j) 0 8 = some 1 := by
  have h := win_in (τ := τ) (n := 9) (i := j) (by omega) hj
  rwa [show nI 9 - (1 : Int32) = 8 from by decide] at h
theorem win9_out {τ : St} {x : Int32} (hx : ¬ ∃ j, j < 9 ∧ x = nI j) : fX6_within τ x 0 8 = some 0 := by
  have h := win_out (τ := τ) (n := 9) (x := x) (by omega) hx
  rwa [show nI 9 - (1 : Int32) = 8 from by decide] at h
theorem qi_item {σ τ : St} {m ni nc i j : Nat} (hr : RPr σ τ m) (hp : Pla σ τ m ni nc) (hi : i < m) (hj : j < 6) : ∃ r, fX5_item σ (nI i) (nI j) = some r ∧ fX6_itemNow τ (nI i) (nI j) = some r := by
  obtain ⟨h24, hs, ht, hit, hgp⟩ := hr
  obtain ⟨hl, hinj, ha, hia, h50, h51, h54, h55, h53, h0⟩ := hp
  obtain ⟨⟨wp, wq, bit, hre, hsi, hsc, h48, h49, hki, hkc, hg, hlb, hlB⟩, l25, b25, li, bi, lc, bc, le, l53, l52, lz⟩ := id hl
  have hh := has_in_p hs h24 hi
  have c1 := ckN (i := i) (N := 24) (by omega) (by omega)
  have hi24 : i < 24 := by omega
  unfold fX5_item fX6_itemNow
  rw [hh, bd1_s, if_neg d_1_0]
  have hj' : j = 0 ∨ j = 1 ∨ j = 2 ∨ j = 3 ∨ j = 4 ∨ j = 5 := by omega
  rcases hj' with rfl | rfl | rfl | rfl | rfl | rfl
  · exact ⟨σ 8 i, by rw [if_pos (show nI 0 = (0 : Int32) from by decide), kind_in_p hs h24 hi, bd1_s], by rw [if_pos (show nI 0 = (0 : Int32) from by decide), ck_t c1, nI_clamp (by omega), (hit i hi).1]⟩
  · exact ⟨σ 9 i, by rw [if_neg (show ¬ nI 1 = (0 : Int32) from by decide), if_pos (show nI 1 = (1 : Int32) from by decide), told_in_p hs h24 hi, bd1_s], by rw [if_neg (show ¬ nI 1 = (0 : Int32) from by decide), if_pos (show nI 1 = (1 : Int32) from by decide), ck_t c1, nI_clamp (by omega), (hit i hi).2.1]⟩
  · exact ⟨σ 25 i, by rw [if_neg (show ¬ nI 2 = (0 : Int32) from by decide), if_neg (show ¬ nI 2 = (1 : Int32) from by decide), if_pos (show nI 2 = (2 : Int32) from by decide), addressOf_in hi24, bd1_s], by rw [if_neg (show ¬ nI 2 = (0 : Int32) from by decide), if_neg (show ¬ nI 2 = (1 : Int32) from by decide), if_pos (show nI 2 = (2 : Int32) from by decide), ck_t c1, nI_clamp (by omega), l25 i hi]⟩
  · obtain ⟨A, hA, eA, eS⟩ := lz i hi
    exact ⟨σ 26 i, by rw [if_neg (show ¬ nI 3 = (0 : Int32) from by decide), if_neg (show ¬ nI 3 = (1 : Int32) from by decide), if_neg (show ¬ nI 3 = (2 : Int32) from by decide), if_pos (show nI 3 = (3 : Int32) from by decide), sizeOf_in hi24, bd1_s], by rw [if_neg (show ¬ nI 3 = (0 : Int32) from by decide), if_neg (show ¬ nI 3 = (1 : Int32) from by decide), if_neg (show ¬ nI 3 = (2 : Int32) from by decide), if_pos (show nI 3 = (3 : Int32) from by decide), ck_t c1, nI_clamp (by omega), ← l25 i hi, eA, sizeM_eq (wq.2.2 i hi) hi24 hA, bd1_s, eS, (bit i hi).1, (bit i hi).2.1, (bit i hi).2.2.1]⟩
  · by_cases q : σ 24 i = 0
    · exact ⟨0, by rw [if_neg (show ¬ nI 4 = (0 : Int32) from by decide), if_neg (show ¬ nI 4 = (1 : Int32) from by decide), if_neg (show ¬ nI 4 = (2 : Int32) from by decide), if_neg (show ¬ nI 4 = (3 : Int32) from by decide), if_pos (show nI 4 = (4 : Int32) from by decide), isLong_in hi24, bd1_s, if_pos q, if_pos rfl], by rw [if_neg (show ¬ nI 4 = (0 : Int32) from by decide), if_neg (show ¬ nI 4 = (1 : Int32) from by decide), if_neg (show ¬ nI 4 = (2 : Int32) from by decide), if_neg (show ¬ nI 4 = (3 : Int32) from by decide), if_pos (show nI 4 = (4 : Int32) from by decide), ck_t c1, nI_clamp (by omega), ← (bit i hi).2.2.1, if_pos q]⟩
    · exact ⟨1, by rw [if_neg (show ¬ nI 4 = (0 : Int32) from by decide), if_neg (show ¬ nI 4 = (1 : Int32) from by decide), if_neg (show ¬ nI 4 = (2 : Int32) from by decide), if_neg (show ¬ nI 4 = (3 : Int32) from by decide), if_pos (show nI 4 = (4 : Int32) from by decide), isLong_in hi24, bd1_s, if_neg q, if_neg d_1_0], by rw [if_neg (show ¬ nI 4 = (0 : Int32) from by decide), if_neg (show ¬ nI 4 = (1 : Int32) from by decide), if_neg (show ¬ nI 4 = (2 : Int32) from by decide), if_neg (show ¬ nI 4 = (3 : Int32) from by decide), if_pos (show nI 4 = (4 : Int32) from by decide), ck_t c1, nI_clamp (by omega), ← (bit i hi).2.2.1, if_neg q]⟩
  · exact ⟨σ 28 i, by rw [if_neg (show ¬ nI 5 = (0 : Int32) from by decide), if_neg (show ¬ nI 5 = (1 : Int32) from by decide), if_neg (show ¬ nI 5 = (2 : Int32) from by decide), if_neg (show ¬ nI 5 = (3 : Int32) from by decide), if_neg (show ¬ nI 5 = (4 : Int32) from by decide), if_pos (show nI 5 = (5 : Int32) from by decide), aimOf_in hi24, bd1_s], by rw [if_neg (show ¬ nI 5 = (0 : Int32) from by decide), if_neg (show ¬ nI 5 = (1 : Int32) from by decide), if_neg (show ¬ nI 5 = (2 : Int32) from by decide), if_neg (show ¬ nI 5 = (3 : Int32) from by decide), if_neg (show ¬ nI 5 = (4 : Int32) from by decide), goesTo_eq h24 wq.2.2 (LL_Mi hl) (LL_Mc hl) (LL_B12 hl) (LL_B17 hl) hi, bd1_s, ha i hi]⟩
theorem eq_item {σ τ : St} (h : Inv σ τ) (x1 x2 : Int32) : ∃ r, fX5_item σ x1 x2 = some r ∧ fX6_item τ x1 x2 = some r := by
  obtain ⟨n, m, ni, nc, hg, hr, hp, _, _⟩ := h
  obtain ⟨h24, hs, ht, hit, hgp⟩ := id hr
  by_cases hx : ∃ i, i < m ∧ x1 = nI i
  · obtain ⟨i, hi, rfl⟩ := hx
    by_cases hy : ∃ j, j < 6 ∧ x2 = nI j
    · obtain ⟨j, hj, rfl⟩ := hy
      obtain ⟨r, e1, e2⟩ := qi_item hr hp hi hj
      refine ⟨r, e1, ?_⟩
      unfold fX6_item
      rw [isItem_in h24 ht hi, bd1_s, if_neg d_1_0, win6_in hj, bd1_s, if_neg d_1_0, e2, bd1_s]
    · refine ⟨-1002, ?_, ?_⟩
      · unfold fX5_item
        rw [has_in_p hs h24 hi, bd1_s, if_neg d_1_0, if_neg (show ¬ x2 = (0 : Int32) from fun e => hy ⟨0, by omega, e⟩), if_neg (show ¬ x2 = (1 : Int32) from fun e => hy ⟨1, by omega, e⟩), if_neg (show ¬ x2 = (2 : Int32) from fun e => hy ⟨2, by omega, e⟩), if_neg (show ¬ x2 = (3 : Int32) from fun e => hy ⟨3, by omega, e⟩), if_neg (show ¬ x2 = (4 : Int32) from fun e => hy ⟨4, by omega, e⟩), if_neg (show ¬ x2 = (5 : Int32) from fun e => hy ⟨5, by omega, e⟩)]
      · unfold fX6_item
        rw [isItem_in h24 ht hi, bd1_s, if_neg d_1_0, win6_out hy, bd1_s, if_pos rfl]
  · refine ⟨-1001, ?_, ?_⟩
    · unfold fX5_item
      rw [has_out_p hs h24 hx, bd1_s, if_pos rfl]
    · unfold fX6_item
      rw [isItem_out h24 ht hx, bd1_s, if_pos rfl]
theorem qi_island {σ τ : St} {m ni nc k j : Nat} (hp : Pla σ τ m ni nc) (hk : k < ni) (hj : j < 4) : ∃ r, fX5_island σ (nI k) (nI j) = some r ∧ fX6_islandNow τ (nI k) (nI j) = some r := by
  obtain ⟨hl, hinj, ha, hia, h50, h51, h54, h55, h53, h0⟩ := hp
  obtain ⟨⟨wp, wq, bit, hre, hsi, hsc, h48, h49, hki, hkc, hg, hlb, hlB⟩, l25, b25, li, bi, lc, bc, le, l53, l52, lz⟩ := id hl
  have hni := hsi.1
  have c1 := ckN (i := k) (N := 12) (by omega) (by omega)
  obtain ⟨k1, k2, ⟨l, h8, el⟩, _⟩ := hki k hk
  unfold fX5_island fX6_islandNow
  rw [shas_in_i hsi hk, bd1_s, if_neg d_1_0]
  have hj' : j = 0 ∨ j = 1 ∨ j = 2 ∨ j = 3 := by omega
  rcases hj' with rfl | rfl | rfl | rfl
  · exact ⟨σ 13 k, by rw [if_pos (show nI 0 = (0 : Int32) from by decide), sname_i hsi hk, bd1_s], by rw [if_pos (show nI 0 = (0 : Int32) from by decide), ck_t c1, nI_clamp (by omega), k1]⟩
  · exact ⟨σ 14 k, by rw [if_neg (show ¬ nI 1 = (0 : Int32) from by decide), if_pos (show nI 1 = (1 : Int32) from by decide), sret_i hsi hk, bd1_s], by rw [if_neg (show ¬ nI 1 = (0 : Int32) from by decide), if_pos (show nI 1 = (1 : Int32) from by decide), ck_t c1, nI_clamp (by omega), k2]⟩
  · exact ⟨ad_i σ k, by rw [if_neg (show ¬ nI 2 = (0 : Int32) from by decide), if_neg (show ¬ nI 2 = (1 : Int32) from by decide), if_pos (show nI 2 = (2 : Int32) from by decide), saddr_i hsi hk, bd1_s], by rw [if_neg (show ¬ nI 2 = (0 : Int32) from by decide), if_neg (show ¬ nI 2 = (1 : Int32) from by decide), if_pos (show nI 2 = (2 : Int32) from by decide), ck_t c1, nI_clamp (by omega), li k hk]⟩
  · obtain ⟨F, hF, eF⟩ := (LL_Mi hl).2.2 k hk
    obtain ⟨T, hT, eT⟩ := LL_B17 hl l h8
    have em : τ 8 k = nI l := by rw [← k1]; exact el
    have e : iaimM τ ni k = aimL (τ 8) (τ 13) (τ 17 l) (τ 4 1) (nI F) (nI l) ni := by
      unfold iaimM
      rw [em, eF, nI_clamp (by omega)]
    refine ⟨σ 29 k, by rw [if_neg (show ¬ nI 3 = (0 : Int32) from by decide), if_neg (show ¬ nI 3 = (1 : Int32) from by decide), if_neg (show ¬ nI 3 = (2 : Int32) from by decide), if_pos (show nI 3 = (3 : Int32) from by decide), islandAimOf_in (by omega), bd1_s], ?_⟩
    rw [if_neg (show ¬ nI 3 = (0 : Int32) from by decide), if_neg (show ¬ nI 3 = (1 : Int32) from by decide), if_neg (show ¬ nI 3 = (2 : Int32) from by decide), ck_t c1, ck_t c1, nI_clamp (by omega), em, eF, goesM_in (LL_Mi hl) h8 hF hT eT, bd1_s, hia k hk, e]
theorem eq_island {σ τ : St} (h : Inv σ τ) (x1 x2 : Int32) : ∃ r, fX5_island σ x1 x2 = some r ∧ fX6_island τ x1 x2 = some r := by
  obtain ⟨n, m, ni, nc, hg, hr, hp, _, _⟩ := h
  obtain ⟨⟨⟨wp, wq, bit, hre, hsi, hsc, h48, h49, _⟩, _⟩, _⟩ := id hp
  have hcap := hsi.1
  by_cases hx : ∃ i, i < ni ∧ x1 = nI i
  · obtain ⟨i, hi, rfl⟩ := hx
    by_cases hy : ∃ j, j < 4 ∧ x2 = nI j
    · obtain ⟨j, hj, rfl⟩ := hy
      obtain ⟨r, e1, e2⟩ := qi_island hp hi hj
      refine ⟨r, e1, ?_⟩
      unfold fX6_island
      rw [h48, win_in (by omega) hi, bd1_s, if_neg d_1_0, win4_in hj, bd1_s, if_neg d_1_0, e2, bd1_s]
    · refine ⟨-1002, ?_, ?_⟩
      · unfold fX5_island
        rw [shas_in_i hsi hi, bd1_s, if_neg d_1_0, if_neg (show ¬ x2 = (0 : Int32) from fun e => hy ⟨0, by omega, e⟩), if_neg (show ¬ x2 = (1 : Int32) from fun e => hy ⟨1, by omega, e⟩), if_neg (show ¬ x2 = (2 : Int32) from fun e => hy ⟨2, by omega, e⟩), if_neg (show ¬ x2 = (3 : Int32) from fun e => hy ⟨3, by omega, e⟩)]
      · unfold fX6_island
        rw [h48, win_in (by omega) hi, bd1_s, if_neg d_1_0, win4_out hy, bd1_s, if_pos rfl]
  · refine ⟨-1001, ?_, ?_⟩
    · unfold fX5_island
      rw [shas_out_i hsi hx, bd1_s, if_pos rfl]
    · unfold fX6_island
      rw [h48, win_out (by omega) hx, bd1_s, if_pos rfl]
def ldS (P : Nat → Bool) (i : Nat) : Nat → Nat
  | 0 => 0
  | d + 1 => (if P i = true then 1 else 0) + ldS P (i + 1) d
theorem ldS_congr {P Q : Nat → Bool} : ∀ {d i : Nat}, (∀ j, i ≤ j → j < i + d → P j = Q j) → ldS P i d = ldS Q i d
  | 0, _, _ => rfl
  | d + 1, i, h => by
    show (if P i = true then 1 else 0) + ldS P (i + 1) d = (if Q i = true then 1 else 0) + ldS Q (i + 1) d
    rw [h i (Nat.le_refl _) (by omega), ldS_congr (fun j h1 h2 => h j (by omega) (by omega))]
def ldC (σ : St) (adr : Int32) (i : Nat) : Bool := decide (σ 8 i = 1 ∧ σ 28 i = adr)
def ldM (τ : St) (nc k i : Nat) : Bool := decide (τ 2 i = 1 ∧ conS (τ 10) (τ 14) (τ 4 2) (τ 12 i) (τ 3 i) nc = nI k)
theorem ldC_loop {σ : St} {m : Nat} (hp : wfP σ m) {adr : Int32} : ∀ (d i N c : Nat), i + d = m → d < N → fX2_loadsOf_l14 σ N adr (nI c) (nI i) = some (nI (c + ldS (ldC σ adr) i d)) := by
  have hm := hp.1
  intro d
  induction d with
  | zero =>
    intro i N c h hN
    obtain ⟨N, rfl⟩ : ∃ k, N = k + 1 := ⟨N - 1, by omega⟩
    have hi : i = m := by omega
    subst hi
    show fX2_loadsOf_s14 σ (fX2_loadsOf_l14 σ N) adr (nI c) (nI i) = _
    unfold fX2_loadsOf_s14 fX0_size_p
    rw [hp.2.1, bd1_s, if_pos (Int32.le_refl _)]
    rfl
  | succ d ih =>
    intro i N c h hN
    obtain ⟨N, rfl⟩ : ∃ k, N = k + 1 := ⟨N - 1, by omega⟩
    have hi : i < m := by omega
    show fX2_loadsOf_s14 σ (fX2_loadsOf_l14 σ N) adr (nI c) (nI i) = some (nI (c + ((if ldC σ adr i = true then 1 else 0) + ldS (ldC σ adr) (i + 1) d)))
    unfold fX2_loadsOf_s14
    rw [show fX0_size_p σ = some (nI m) from by unfold fX0_size_p; rw [hp.2.1], bd1_s, if_neg (nI_ge hi (by omega)), kind_in_p hp.2.1 hm hi, bd1_s]
    by_cases k1 : σ 8 i = 1
    · rw [if_pos k1, aimOf_in (by omega), bd1_s]
      by_cases k2 : σ 28 i = adr
      · rw [if_pos k2, nI_1 c, nI_1 i, ih (i + 1) N (c + 1) (by omega) (by omega), if_pos (show ldC σ adr i = true from decide_eq_true ⟨k1, k2⟩), Nat.add_assoc]
      · rw [if_neg k2, nI_1 i, ih (i + 1) N c (by omega) (by omega), if_neg (show ¬ ldC σ adr i = true from fun e => k2 (of_decide_eq_true e).2), Nat.zero_add]
    · rw [if_neg k1, nI_1 i, ih (i + 1) N c (by omega) (by omega), if_neg (show ¬ ldC σ adr i = true from fun e => k1 (of_decide_eq_true e).1), Nat.zero_add]
theorem ldM_loop {τ : St} {m nc k : Nat} (hp : wfM τ m) (hc : Mc τ nc) (hB : Bd (τ 12) m) : ∀ (d i N c : Nat), i + d = m → d < N → fX6_loadsOf_l4 τ N (nI k) (nI c) (nI i) = some (nI (c + ldS (ldM τ nc k) i d)) := by
  have hm := hp.1
  intro d
  induction d with
  | zero =>
    intro i N c h hN
    obtain ⟨N, rfl⟩ : ∃ k, N = k + 1 := ⟨N - 1, by omega⟩
    have hi : i = m := by omega
    subst hi
    show fX6_loadsOf_s4 τ (fX6_loadsOf_l4 τ N) (nI k) (nI c) (nI i) = _
    unfold fX6_loadsOf_s4
    rw [hp.2.1, if_pos (Int32.le_refl _)]
    rfl
  | succ d ih =>
    intro i N c h hN
    obtain ⟨N, rfl⟩ : ∃ k, N = k + 1 := ⟨N - 1, by omega⟩
    have hi : i < m := by omega
    obtain ⟨F, hF, eF⟩ := hB i hi
    have eC : fX6_constantFor τ (nI i) = some (conS (τ 10) (τ 14) (τ 4 2) (τ 12 i) (τ 3 i) nc) := by
      rw [conM_eq hc (by omega) hF eF, eF]
    show fX6_loadsOf_s4 τ (fX6_loadsOf_l4 τ N) (nI k) (nI c) (nI i) = some (nI (c + ((if ldM τ nc k i = true then 1 else 0) + ldS (ldM τ nc k) (i + 1) d)))
    unfold fX6_loadsOf_s4 fX6_loadsOf_b36
    rw [hp.2.1, if_neg (nI_ge hi (by omega)), ck_t (ckN (i := i) (N := 24) (by omega) (by omega)), nI_clamp (by omega)]
    by_cases k1 : τ 2 i = 1
    · rw [if_pos k1, eC, bd1_s]
      by_cases k2 : conS (τ 10) (τ 14) (τ 4 2) (τ 12 i) (τ 3 i) nc = nI k
      · rw [if_pos k2, nI_1 c, nI_1 i, ih (i + 1) N (c + 1) (by omega) (by omega), if_pos (show ldM τ nc k i = true from decide_eq_true ⟨k1, k2⟩), Nat.add_assoc]
      · rw [if_neg k2, Int32.add_zero, nI_1 i, ih (i + 1) N c (by omega) (by omega), if_neg (show ¬ ldM τ nc k i = true from fun e => k2 (of_decide_eq_true e).2), Nat.zero_add]
    · rw [if_neg k1, Int32.add_zero, nI_1 i, ih (i + 1) N c (by omega) (by omega), if_neg (show ¬ ldM τ nc k i = true from fun e => k1 (of_decide_eq_true e).1), Nat.zero_add]
theorem loads_both {σ τ : St} {m ni nc k : Nat} (hp : Pla σ τ m ni nc) (hk : k < nc) : ∃ r, fX2_loadsOf σ (nI k) = some r ∧ fX6_loadsOf τ (nI k) = some r := by
  obtain ⟨hl, hinj, ha, hia, h50, h51, h54, h55, h53, h0⟩ := hp
  obtain ⟨⟨wp, wq, bit, hre, hsi, hsc, h48, h49, hki, hkc, hg, hlb, hlB⟩, l25, b25, li, bi, lc, bc, le, l53, l52, lz⟩ := id hl
  have hnc := hsc.1
  have hm := wp.1
  refine ⟨nI (0 + ldS (ldC σ (ad_c σ k)) 0 m), ?_, ?_⟩
  · unfold fX2_loadsOf
    rw [saddr_c hsc hk, bd1_s]
    exact ldC_loop wp m 0 FU 0 (by omega) (by unfold FU; omega)
  · unfold fX6_loadsOf
    have e : ldS (ldC σ (ad_c σ k)) 0 m = ldS (ldM τ nc k) 0 m := ldS_congr (fun i _ h2 => by
      have hi : i < m := by omega
      unfold ldC ldM
      refine decide_eq_decide.mpr ⟨fun ⟨q1, q2⟩ => ?_, fun ⟨q1, q2⟩ => ?_⟩
      · rw [(bit i hi).1] at q1
        refine ⟨q1, ?_⟩
        rw [ha i hi] at q2
        unfold aimM aimV at q2
        rw [if_pos q1] at q2
        rcases conS_best (nm := τ 10) (ad := τ 14) (r2 := τ 4 2) (frm := τ 12 i) (v := τ 3 i) nc with e | ⟨j, hj, e⟩
        · rw [if_pos e] at q2
          obtain ⟨A, hA, eA⟩ := bc k hk
          exact absurd (q2.trans eA).symm (nI_m1 (by omega))
        · rw [e, if_neg (nI_m1 (by omega)), nI_clamp (by omega), ← lc j hj] at q2
          rw [e, hinj j k hj hk q2]
      · refine ⟨by rw [(bit i hi).1]; exact q1, ?_⟩
        rw [ha i hi]
        unfold aimM aimV
        rw [if_pos q1, q2, if_neg (nI_m1 (by omega)), nI_clamp (by omega), lc k hk])
    rw [e]
    exact ldM_loop wq (LL_Mc hl) (LL_B12 hl) m 0 FU 0 (by omega) (by unfold FU; omega)
theorem qi_constant {σ τ : St} {m ni nc k j : Nat} (hp : Pla σ τ m ni nc) (hk : k < nc) (hj : j < 4) : ∃ r, fX5_constant σ (nI k) (nI j) = some r ∧ fX6_constantNow τ (nI k) (nI j) = some r := by
  obtain ⟨r3, q1, q2⟩ := loads_both hp hk
  obtain ⟨hl, hinj, ha, hia, h50, h51, h54, h55, h53, h0⟩ := hp
  obtain ⟨⟨wp, wq, bit, hre, hsi, hsc, h48, h49, hki, hkc, hg, hlb, hlB⟩, l25, b25, li, bi, lc, bc, le, l53, l52, lz⟩ := id hl
  have hnc := hsc.1
  have c1 := ckN (i := k) (N := 16) (by omega) (by omega)
  obtain ⟨k1, k2, _⟩ := hkc k hk
  unfold fX5_constant fX6_constantNow
  rw [shas_in_c hsc hk, bd1_s, if_neg d_1_0]
  have hj' : j = 0 ∨ j = 1 ∨ j = 2 ∨ j = 3 := by omega
  rcases hj' with rfl | rfl | rfl | rfl
  · exact ⟨σ 19 k, by rw [if_pos (show nI 0 = (0 : Int32) from by decide), sname_c hsc hk, bd1_s], by rw [if_pos (show nI 0 = (0 : Int32) from by decide), ck_t c1, nI_clamp (by omega), k1]⟩
  · exact ⟨σ 20 k, by rw [if_neg (show ¬ nI 1 = (0 : Int32) from by decide), if_pos (show nI 1 = (1 : Int32) from by decide), sret_c hsc hk, bd1_s], by rw [if_neg (show ¬ nI 1 = (0 : Int32) from by decide), if_pos (show nI 1 = (1 : Int32) from by decide), ck_t c1, nI_clamp (by omega), k2]⟩
  · exact ⟨ad_c σ k, by rw [if_neg (show ¬ nI 2 = (0 : Int32) from by decide), if_neg (show ¬ nI 2 = (1 : Int32) from by decide), if_pos (show nI 2 = (2 : Int32) from by decide), saddr_c hsc hk, bd1_s], by rw [if_neg (show ¬ nI 2 = (0 : Int32) from by decide), if_neg (show ¬ nI 2 = (1 : Int32) from by decide), if_pos (show nI 2 = (2 : Int32) from by decide), ck_t c1, nI_clamp (by omega), lc k hk]⟩
  · exact ⟨r3, by rw [if_neg (show ¬ nI 3 = (0 : Int32) from by decide), if_neg (show ¬ nI 3 = (1 : Int32) from by decide), if_neg (show ¬ nI 3 = (2 : Int32) from by decide), if_pos (show nI 3 = (3 : Int32) from by decide), q1, bd1_s], by rw [if_neg (show ¬ nI 3 = (0 : Int32) from by decide), if_neg (show ¬ nI 3 = (1 : Int32) from by decide), if_neg (show ¬ nI 3 = (2 : Int32) from by decide), q2, bd1_s]⟩
theorem eq_constant {σ τ : St} (h : Inv σ τ) (x1 x2 : Int32) : ∃ r, fX5_constant σ x1 x2 = some r ∧ fX6_constant τ x1 x2 = some r := by
  obtain ⟨n, m, ni, nc, hg, hr, hp, _, _⟩ := h
  obtain ⟨⟨⟨wp, wq, bit, hre, hsi, hsc, h48, h49, _⟩, _⟩, _⟩ := id hp
  have hcap := hsc.1
  by_cases hx : ∃ i, i < nc ∧ x1 = nI i
  · obtain ⟨i, hi, rfl⟩ := hx
    by_cases hy : ∃ j, j < 4 ∧ x2 = nI j
    · obtain ⟨j, hj, rfl⟩ := hy
      obtain ⟨r, e1, e2⟩ := qi_constant hp hi hj
      refine ⟨r, e1, ?_⟩
      unfold fX6_constant
      rw [h49, win_in (by omega) hi, bd1_s, if_neg d_1_0, win4_in hj, bd1_s, if_neg d_1_0, e2, bd1_s]
    · refine ⟨-1002, ?_, ?_⟩
      · unfold fX5_constant
        rw [shas_in_c hsc hi, bd1_s, if_neg d_1_0, if_neg (show ¬ x2 = (0 : Int32) from fun e => hy ⟨0, by omega, e⟩), if_neg (show ¬ x2 = (1 : Int32) from fun e => hy ⟨1, by omega, e⟩), if_neg (show ¬ x2 = (2 : Int32) from fun e => hy ⟨2, by omega, e⟩), if_neg (show ¬ x2 = (3 : Int32) from fun e => hy ⟨3, by omega, e⟩)]
      · unfold fX6_constant
        rw [h49, win_in (by omega) hi, bd1_s, if_neg d_1_0, win4_out hy, bd1_s, if_pos rfl]
  · refine ⟨-1001, ?_, ?_⟩
    · unfold fX5_constant
      rw [shas_out_c hsc hx, bd1_s, if_pos rfl]
    · unfold fX6_constant
      rw [h49, win_out (by omega) hx, bd1_s, if_pos rfl]
/-! hops: both go the same way; each hop comes nearer, so twelve are the most. -/
def cntD (A : Nat → Nat) (T P : Nat) : Nat → Nat
  | 0 => 0
  | k + 1 => cntD A T P k + (if dst (A k) T < P then 1 else 0)
theorem cntD_le {A : Nat → Nat} {T P : Nat} : ∀ n, cntD A T P n ≤ n
  | 0 => Nat.le_refl _
  | n + 1 => by
    have := cntD_le (A := A) (T := T) (P := P) n
    show cntD A T P n + (if dst (A n) T < P then 1 else 0) ≤ n + 1
    by_cases q : dst (A n) T < P
    · rw [if_pos q]; omega
    · rw [if_neg q]; omega
theorem cntD_mono {A : Nat → Nat} {T P Q : Nat} (h : Q ≤ P) : ∀ n, cntD A T Q n ≤ cntD A T P n
  | 0 => Nat.le_refl _
  | n + 1 => by
    have := cntD_mono (A := A) (T := T) h n
    show cntD A T Q n + (if dst (A n) T < Q then 1 else 0) ≤ cntD A T P n + (if dst (A n) T < P then 1 else 0)
    by_cases q : dst (A n) T < Q
    · rw [if_pos q, if_pos (show dst (A n) T < P by omega)]; omega
    · rw [if_neg q]; omega
theorem cntD_lt {A : Nat → Nat} {T P Q j : Nat} (hj : dst (A j) T = Q) (hQ : Q < P) : ∀ n, j < n → cntD A T Q n + 1 ≤ cntD A T P n
  | 0, h => absurd h (Nat.not_lt_zero _)
  | n + 1, h => by
    show cntD A T Q n + (if dst (A n) T < Q then 1 else 0) + 1 ≤ cntD A T P n + (if dst (A n) T < P then 1 else 0)
    by_cases e : j = n
    · subst e
      have := cntD_mono (A := A) (T := T) (Nat.le_of_lt hQ) j
      rw [if_neg (show ¬ dst (A j) T < Q by omega), if_pos (show dst (A j) T < P by omega)]; omega
    · have := cntD_lt hj hQ n (by omega)
      by_cases q : dst (A n) T < Q
      · rw [if_pos q, if_pos (show dst (A n) T < P by omega)]; omega
      · rw [if_neg q]; omega
def adN (σ : St) (k : Nat) : Nat := Int32.toNatClampNeg (ad_i σ k)
theorem hop_step {σ τ : St} {m ni nc l T y F : Nat} (hl : LL σ τ m ni nc) (h8 : l < 8) (hT : T < 4096) (eT : σ 27 l = nI T) (hF : F < 4096) (hy : y ≤ 12) :
    (∃ r, ∀ KC KM, fX2_hopsFrom_s41 σ KC (nI l) (nI F) (nI y) = some r ∧ fX6_hopsNow_s41 τ KM (nI l) (nI F) (nI y) = some r) ∨
    (∃ F', F' < 4096 ∧ cntD (adN σ) T (dst F' T) ni + 1 ≤ cntD (adN σ) T (dst F T) ni ∧ ∀ KC KM, fX2_hopsFrom_s41 σ KC (nI l) (nI F) (nI y) = KC (nI l) (nI F') (nI (y + 1)) ∧ fX6_hopsNow_s41 τ KM (nI l) (nI F) (nI y) = KM (nI l) (nI F') (nI (y + 1))) := by
  obtain ⟨⟨wp, wq, bit, hre, hsi, hsc, h48, h49, hki, hkc, hg, hlb, hlB⟩, l25, b25, li, bi, lc, bc, le, l53, l52, lz⟩ := id hl
  have hni := hsi.1
  have eT' : τ 17 l = nI T := by rw [← hlb l h8]; exact eT
  have n12 : ¬ (12 : Int32) < nI y := nI_nlt (a := 12) (b := y) hy (by omega)
  have hr1 : σ 10 1 = τ 4 1 := hre 1 (by omega)
  unfold fX2_hopsFrom_s41 fX6_hopsNow_s41
  by_cases q : τ 4 1 < farI (nI F) (nI T)
  · have q1 : fX2_goesStraight σ (nI F) (nI l) = some 0 := by rw [straight_in h8, hr1, eT, if_pos q]
    have q2 : fX6_reachesLabel τ (nI F) (nI l) = some 0 := by rw [reachM_in h8, eT', if_pos q]
    have i2 := islM_eq (LL_Mi hl) h8 hF hT eT'
    have i1 : fX2_islandFor σ (nI F) (nI l) = some (islS (τ 8) (τ 13) (τ 17 l) (τ 4 1) (nI F) (nI l) ni).1 := by
      rw [islC_eq hsi h8 (nI F), hr1, eT, eT', islS_congr (nm := σ 13) (ad := ad_i σ) (nm' := τ 8) (ad' := τ 13) (by omega) (fun k hk => ⟨(hki k hk).1, li k hk⟩)]
    obtain ⟨P, p1, p2, p3⟩ := islS_inv (nm := τ 8) (ad := τ 13) (to := τ 17 l) (r1 := τ 4 1) (frm := nI F) (lb := nI l) hF hT rfl eT' ni (LL_Mi hl).2.2
    rcases p3 with ⟨e, _⟩ | ⟨j, hj, e, ep, hP⟩
    · refine Or.inl ⟨-1, fun KC KM => ⟨?_, ?_⟩⟩
      · rw [if_neg n12, q1, bd1_s, if_pos rfl, i1, bd1_s, e, if_pos rfl]
      · rw [q2, bd1_s, if_pos rfl, i2, bd1_s, e, if_pos rfl]
    · obtain ⟨A, hA, eA⟩ := bi j hj
      have eA' : τ 13 j = nI A := by rw [← li j hj]; exact eA
      rw [eA', eT', far_nI hA hT] at ep
      have hPA : P = dst A T := (nI_eq (by omega) (Nat.lt_trans (dst_lt hA hT) (by omega))).mp ep
      subst hPA
      refine Or.inr ⟨A, hA, cntD_lt (A := adN σ) (j := j) (by unfold adN; rw [eA, nI_clamp (by omega)]) hP ni hj, fun KC KM => ⟨?_, ?_⟩⟩
      · rw [if_neg n12, q1, bd1_s, if_pos rfl, i1, bd1_s, e, if_neg (nI_m1 (by omega)), saddr_i hsi hj, bd1_s, eA, nI_1]
      · rw [q2, bd1_s, if_pos rfl, i2, bd1_s, e, if_neg (nI_m1 (by omega)), ck_t (ckN (i := j) (N := 12) (by omega) (by omega)), nI_clamp (by omega), eA', nI_1]
  · have q1 : fX2_goesStraight σ (nI F) (nI l) = some 1 := by rw [straight_in h8, hr1, eT, if_neg q]
    have q2 : fX6_reachesLabel τ (nI F) (nI l) = some 1 := by rw [reachM_in h8, eT', if_neg q]
    refine Or.inl ⟨nI y, fun KC KM => ⟨?_, ?_⟩⟩
    · rw [if_neg n12, q1, bd1_s, if_neg d_1_0]
    · rw [q2, bd1_s, if_neg d_1_0]
theorem hop_loop {σ τ : St} {m ni nc l T : Nat} (hl : LL σ τ m ni nc) (h8 : l < 8) (hT : T < 4096) (eT : σ 27 l = nI T) : ∀ (c y F N M : Nat), F < 4096 → y + c ≤ 12 → cntD (adN σ) T (dst F T) ni ≤ c → c < N → c < M → ∃ r, fX2_hopsFrom_l41 σ N (nI l) (nI F) (nI y) = some r ∧ fX6_hopsNow_l41 τ M (nI l) (nI F) (nI y) = some r := by
  intro c
  induction c with
  | zero =>
    intro y F N M hF hy hc hN hM
    obtain ⟨N, rfl⟩ : ∃ k, N = k + 1 := ⟨N - 1, by omega⟩
    obtain ⟨M, rfl⟩ : ∃ k, M = k + 1 := ⟨M - 1, by omega⟩
    rcases hop_step hl h8 hT eT hF (show y ≤ 12 by omega) with ⟨r, hr⟩ | ⟨F', _, h2, _⟩
    · exact ⟨r, (hr (fX2_hopsFrom_l41 σ N) (fX6_hopsNow_l41 τ M)).1, (hr (fX2_hopsFrom_l41 σ N) (fX6_hopsNow_l41 τ M)).2⟩
    · omega
  | succ c ih =>
    intro y F N M hF hy hc hN hM
    obtain ⟨N, rfl⟩ : ∃ k, N = k + 1 := ⟨N - 1, by omega⟩
    obtain ⟨M, rfl⟩ : ∃ k, M = k + 1 := ⟨M - 1, by omega⟩
    rcases hop_step hl h8 hT eT hF (show y ≤ 12 by omega) with ⟨r, hr⟩ | ⟨F', h1, h2, h3⟩
    · exact ⟨r, (hr (fX2_hopsFrom_l41 σ N) (fX6_hopsNow_l41 τ M)).1, (hr (fX2_hopsFrom_l41 σ N) (fX6_hopsNow_l41 τ M)).2⟩
    · obtain ⟨r, e1, e2⟩ := ih (y + 1) F' N M h1 (by omega) (by omega) (by omega) (by omega)
      refine ⟨r, ?_, ?_⟩
      · show fX2_hopsFrom_s41 σ (fX2_hopsFrom_l41 σ N) (nI l) (nI F) (nI y) = _
        rw [(h3 (fX2_hopsFrom_l41 σ N) (fX6_hopsNow_l41 τ M)).1]; exact e1
      · show fX6_hopsNow_s41 τ (fX6_hopsNow_l41 τ M) (nI l) (nI F) (nI y) = _
        rw [(h3 (fX2_hopsFrom_l41 σ N) (fX6_hopsNow_l41 τ M)).2]; exact e2
theorem shortM_eq {τ : St} {m ni nc i l : Nat} (h24 : m ≤ 24) (hi : i < m) (h8 : l < 8) (k2 : τ 2 i = 2) (g : τ 7 i = 0) (el : τ 3 i = nI l) : fX6_shortGoes τ (nI i) = some (aimM τ ni nc i) := by
  have c24 : ¬ (nI i < 0 ∨ 24 ≤ Int32.toNatClampNeg (nI i)) := ckN (by omega) (by omega)
  have c24' : ¬ (nI i < 0 ∨ 24 ≤ i) := fun z => z.elim (nI_pos (by omega)) (by omega)
  unfold fX6_shortGoes aimM aimV
  rw [if_neg (show ¬ τ 2 i = 1 from by rw [k2]; decide), if_pos k2, if_pos g, ck_t c24, nI_clamp (n := i) (by omega), el, ck_t (ckN h8 (by omega)), ck_t c24', nI_clamp (n := l) (by omega), apart_eq, bd1_s, show Int32.toNatClampNeg (0 : Int32) = 0 from by decide]
  by_cases q : τ 4 0 < farI (τ 12 i) (τ 17 l)
  · rw [if_pos q, if_pos q]
  · rw [if_neg q, if_neg q]
theorem eq_hops {σ τ : St} (h : Inv σ τ) (x : Int32) : ∃ r, fX5_hops σ x = some r ∧ fX6_hops τ x = some r := by
  obtain ⟨n, m, ni, nc, hg, hr, hp, _, _⟩ := h
  obtain ⟨h24, hs, ht, hit, hgp⟩ := id hr
  by_cases hx : ∃ i, i < m ∧ x = nI i
  · obtain ⟨i, hi, rfl⟩ := hx
    have c1 := ckN (i := i) (N := 24) (by omega) (by omega)
    have c2 : ¬ (nI i < 0 ∨ 24 ≤ i) := fun z => z.elim (nI_pos (by omega)) (by omega)
    unfold fX5_hops fX6_hops
    rw [has_in_p hs h24 hi, isItem_in h24 ht hi, bd1_s, bd1_s, if_neg d_1_0, if_neg d_1_0, kind_in_p hs h24 hi, bd1_s, ck_t c1, nI_clamp (by omega), ← (hit i hi).1]
    by_cases k2 : σ 8 i = 2
    · obtain ⟨hl, hinj, ha, hia, h50, h51, h54, h55, h53, h0⟩ := hp
      obtain ⟨⟨wp, wq, bit, hre, hsi, hsc, h48, h49, hki, hkc, hgg, hlb, hlB⟩, l25, b25, li, bi, lc, bc, le, l53, l52, lz⟩ := id hl
      obtain ⟨l, h8, el⟩ := wf_lab (wp.2.2 i hi) k2
      have el' : τ 3 i = nI l := by rw [← (hit i hi).2.1]; exact el
      have k2' : τ 2 i = 2 := by rw [← (hit i hi).1]; exact k2
      rw [if_pos k2, if_pos k2]
      unfold fX2_hopsFrom fX6_hopsNow
      rw [told_in_p hs h24 hi, bd1_s, addressOf_in (by omega), bd1_s, isLong_in (by omega), bd1_s, ck_t c1, ck_t c1, nI_clamp (by omega), el, el']
      by_cases q : σ 24 i = 0
      · have q' : τ 7 i = 0 := by rw [← (bit i hi).2.2.1]; exact q
        rw [if_pos q, if_pos rfl, aimOf_in (by omega), bd1_s, if_pos q', shortM_eq (ni := ni) (nc := nc) h24 hi h8 k2' q' el', bd1_s, ha i hi]
        by_cases z : aimM τ ni nc i = -1
        · exact ⟨-1, by rw [if_pos z, bd1_s], by rw [if_pos z, bd1_s]⟩
        · exact ⟨0, by rw [if_neg z, bd1_s], by rw [if_neg z, bd1_s]⟩
      · have q' : ¬ τ 7 i = 0 := by rw [← (bit i hi).2.2.1]; exact q
        obtain ⟨F, hF, eF⟩ := b25 i hi
        obtain ⟨T, hT, eT⟩ := hlB l h8
        have hni := hsi.1
        have hc := cntD_le (A := adN σ) (T := T) (P := dst F T) ni
        obtain ⟨r, e1, e2⟩ := hop_loop hl h8 hT eT 12 0 F FU FU hF (by omega) (by omega) (by unfold FU; omega) (by unfold FU; omega)
        rw [if_neg q, if_neg d_1_0, if_neg q', ck_t c2, ← l25 i hi, eF]
        exact ⟨r, by rw [show fX2_hopsFrom_l41 σ FU (nI l) (nI F) 0 = some r from e1, bd1_s], by rw [show fX6_hopsNow_l41 τ FU (nI l) (nI F) 0 = some r from e2, bd1_s]⟩
    · exact ⟨-1003, by rw [if_neg k2], by rw [if_neg k2]⟩
  · refine ⟨-1001, ?_, ?_⟩
    · unfold fX5_hops
      rw [has_out_p hs h24 hx, bd1_s, if_pos rfl]
    · unfold fX6_hops
      rw [isItem_out h24 ht hx, bd1_s, if_pos rfl]
/-! placed and count. -/
theorem lm_loop {τ : St} {m : Nat} (h24 : m ≤ 24) (h41 : τ 41 0 = nI m) (h7 : ∀ i, i < m → τ 7 i = 0 ∨ τ 7 i = 1) : ∀ (d i N : Nat), i + d = m → d < N → fX6_longMany_l4 τ N (nI (cntE (τ 7) 1 i)) (nI i) = some (nI (cntE (τ 7) 1 m)) := by
  intro d
  induction d with
  | zero =>
    intro i N h hN
    obtain ⟨N, rfl⟩ : ∃ k, N = k + 1 := ⟨N - 1, by omega⟩
    have hi : i = m := by omega
    subst hi
    show fX6_longMany_s4 τ (fX6_longMany_l4 τ N) (nI (cntE (τ 7) 1 i)) (nI i) = _
    unfold fX6_longMany_s4
    rw [h41, if_pos (Int32.le_refl _)]
  | succ d ih =>
    intro i N h hN
    obtain ⟨N, rfl⟩ : ∃ k, N = k + 1 := ⟨N - 1, by omega⟩
    have hi : i < m := by omega
    have e := ih (i + 1) N (by omega) (by omega)
    show fX6_longMany_s4 τ (fX6_longMany_l4 τ N) (nI (cntE (τ 7) 1 i)) (nI i) = _
    unfold fX6_longMany_s4
    rw [h41, if_neg (nI_ge hi (by omega)), ck_t (ckN (i := i) (N := 24) (by omega) (by omega)), nI_clamp (by omega)]
    rw [show cntE (τ 7) 1 (i + 1) = cntE (τ 7) 1 i + (if τ 7 i = 1 then 1 else 0) from rfl] at e
    rcases h7 i hi with q | q
    · rw [q, if_neg d_0_1, Nat.add_zero] at e
      rw [if_pos q, Int32.add_zero, nI_1 i]; exact e
    · rw [q, if_pos rfl] at e
      rw [if_neg (by rw [q]; exact d_1_0), nI_1 (cntE (τ 7) 1 i), nI_1 i]; exact e
theorem gp_loop {τ : St} {m : Nat} (h24 : m ≤ 24) (h41 : τ 41 0 = nI m) : ∀ (d i N : Nat), i + d = m → d < N → fX6_gaps_l4 τ N (nI (cnt5 (τ 2) i)) (nI i) = some (nI (cnt5 (τ 2) m)) := by
  intro d
  induction d with
  | zero =>
    intro i N h hN
    obtain ⟨N, rfl⟩ : ∃ k, N = k + 1 := ⟨N - 1, by omega⟩
    have hi : i = m := by omega
    subst hi
    show fX6_gaps_s4 τ (fX6_gaps_l4 τ N) (nI (cnt5 (τ 2) i)) (nI i) = _
    unfold fX6_gaps_s4
    rw [h41, if_pos (Int32.le_refl _)]
  | succ d ih =>
    intro i N h hN
    obtain ⟨N, rfl⟩ : ∃ k, N = k + 1 := ⟨N - 1, by omega⟩
    have hi : i < m := by omega
    have e := ih (i + 1) N (by omega) (by omega)
    show fX6_gaps_s4 τ (fX6_gaps_l4 τ N) (nI (cnt5 (τ 2) i)) (nI i) = _
    unfold fX6_gaps_s4
    rw [h41, if_neg (nI_ge hi (by omega)), ck_t (ckN (i := i) (N := 24) (by omega) (by omega)), nI_clamp (by omega)]
    rw [show cnt5 (τ 2) (i + 1) = cnt5 (τ 2) i + (if τ 2 i = 5 then 1 else 0) from rfl] at e
    by_cases q : τ 2 i = 5
    · rw [if_pos q] at e
      rw [if_pos q, nI_1 (cnt5 (τ 2) i), nI_1 i]; exact e
    · rw [if_neg q, Nat.add_zero] at e
      rw [if_neg q, Int32.add_zero, nI_1 i]; exact e
theorem qi_placed {σ τ : St} {m ni nc j : Nat} (hp : Pla σ τ m ni nc) (hj : j < 9) : ∃ r, fX5_placed σ (nI j) = some r ∧ fX6_placedNow τ (nI j) = some r := by
  obtain ⟨hl, hinj, ha, hia, h50, h51, h54, h55, h53, h0⟩ := hp
  obtain ⟨⟨wp, wq, bit, hre, hsi, hsc, h48, h49, hki, hkc, hg, hlb, hlB⟩, l25, b25, li, bi, lc, bc, le, l53, l52, lz⟩ := id hl
  have h24 := wq.1
  have h41 := wq.2.1
  have hlm : fX6_longMany τ = some (nI (cntE (τ 7) 1 m)) := by
    unfold fX6_longMany
    exact lm_loop h24 h41 (fun i hi => (bit i hi).2.2.2) m 0 FU (by omega) (by unfold FU; omega)
  unfold fX5_placed fX6_placedNow
  have hj' : j = 0 ∨ j = 1 ∨ j = 2 ∨ j = 3 ∨ j = 4 ∨ j = 5 ∨ j = 6 ∨ j = 7 ∨ j = 8 := by omega
  rcases hj' with rfl | rfl | rfl | rfl | rfl | rfl | rfl | rfl | rfl
  · by_cases q : σ 54 0 = 0
    · exact ⟨1, by rw [if_pos (show nI 0 = (0 : Int32) from by decide), if_pos q], by rw [if_pos (show nI 0 = (0 : Int32) from by decide), h53, if_pos q, if_neg d_1_0]⟩
    · exact ⟨0, by rw [if_pos (show nI 0 = (0 : Int32) from by decide), if_neg q], by rw [if_pos (show nI 0 = (0 : Int32) from by decide), h53, if_neg q, if_pos rfl]⟩
  · exact ⟨σ 51 0, by rw [if_neg (show ¬ nI 1 = (0 : Int32) from by decide), if_pos (show nI 1 = (1 : Int32) from by decide)], by rw [if_neg (show ¬ nI 1 = (0 : Int32) from by decide), if_pos (show nI 1 = (1 : Int32) from by decide), h51]⟩
  · by_cases q : m = 0
    · subst q
      exact ⟨0, by rw [if_neg (show ¬ nI 2 = (0 : Int32) from by decide), if_neg (show ¬ nI 2 = (1 : Int32) from by decide), if_pos (show nI 2 = (2 : Int32) from by decide), (h0 rfl).1], by rw [if_neg (show ¬ nI 2 = (0 : Int32) from by decide), if_neg (show ¬ nI 2 = (1 : Int32) from by decide), if_pos (show nI 2 = (2 : Int32) from by decide), h41, if_pos (show nI 0 ≤ (0 : Int32) from by decide)]⟩
    · exact ⟨σ 52 0, by rw [if_neg (show ¬ nI 2 = (0 : Int32) from by decide), if_neg (show ¬ nI 2 = (1 : Int32) from by decide), if_pos (show nI 2 = (2 : Int32) from by decide)], by rw [if_neg (show ¬ nI 2 = (0 : Int32) from by decide), if_neg (show ¬ nI 2 = (1 : Int32) from by decide), if_pos (show nI 2 = (2 : Int32) from by decide), h41, if_neg (nI_nle (by omega) (by omega)), l52]⟩
  · by_cases q : m = 0
    · subst q
      exact ⟨0, by rw [if_neg (show ¬ nI 3 = (0 : Int32) from by decide), if_neg (show ¬ nI 3 = (1 : Int32) from by decide), if_neg (show ¬ nI 3 = (2 : Int32) from by decide), if_pos (show nI 3 = (3 : Int32) from by decide), (h0 rfl).2], by rw [if_neg (show ¬ nI 3 = (0 : Int32) from by decide), if_neg (show ¬ nI 3 = (1 : Int32) from by decide), if_neg (show ¬ nI 3 = (2 : Int32) from by decide), if_pos (show nI 3 = (3 : Int32) from by decide), h41, if_pos (show nI 0 ≤ (0 : Int32) from by decide)]⟩
    · exact ⟨σ 53 0, by rw [if_neg (show ¬ nI 3 = (0 : Int32) from by decide), if_neg (show ¬ nI 3 = (1 : Int32) from by decide), if_neg (show ¬ nI 3 = (2 : Int32) from by decide), if_pos (show nI 3 = (3 : Int32) from by decide)], by rw [if_neg (show ¬ nI 3 = (0 : Int32) from by decide), if_neg (show ¬ nI 3 = (1 : Int32) from by decide), if_neg (show ¬ nI 3 = (2 : Int32) from by decide), if_pos (show nI 3 = (3 : Int32) from by decide), h41, if_neg (nI_nle (by omega) (by omega)), l53]⟩
  · exact ⟨σ 54 0, by rw [if_neg (show ¬ nI 4 = (0 : Int32) from by decide), if_neg (show ¬ nI 4 = (1 : Int32) from by decide), if_neg (show ¬ nI 4 = (2 : Int32) from by decide), if_neg (show ¬ nI 4 = (3 : Int32) from by decide), if_pos (show nI 4 = (4 : Int32) from by decide)], by rw [if_neg (show ¬ nI 4 = (0 : Int32) from by decide), if_neg (show ¬ nI 4 = (1 : Int32) from by decide), if_neg (show ¬ nI 4 = (2 : Int32) from by decide), if_neg (show ¬ nI 4 = (3 : Int32) from by decide), if_pos (show nI 4 = (4 : Int32) from by decide), h54]⟩
  · exact ⟨σ 55 0, by rw [if_neg (show ¬ nI 5 = (0 : Int32) from by decide), if_neg (show ¬ nI 5 = (1 : Int32) from by decide), if_neg (show ¬ nI 5 = (2 : Int32) from by decide), if_neg (show ¬ nI 5 = (3 : Int32) from by decide), if_neg (show ¬ nI 5 = (4 : Int32) from by decide), if_pos (show nI 5 = (5 : Int32) from by decide)], by rw [if_neg (show ¬ nI 5 = (0 : Int32) from by decide), if_neg (show ¬ nI 5 = (1 : Int32) from by decide), if_neg (show ¬ nI 5 = (2 : Int32) from by decide), if_neg (show ¬ nI 5 = (3 : Int32) from by decide), if_neg (show ¬ nI 5 = (4 : Int32) from by decide), if_pos (show nI 5 = (5 : Int32) from by decide), h55]⟩
  · exact ⟨nI ni, by rw [if_neg (show ¬ nI 6 = (0 : Int32) from by decide), if_neg (show ¬ nI 6 = (1 : Int32) from by decide), if_neg (show ¬ nI 6 = (2 : Int32) from by decide), if_neg (show ¬ nI 6 = (3 : Int32) from by decide), if_neg (show ¬ nI 6 = (4 : Int32) from by decide), if_neg (show ¬ nI 6 = (5 : Int32) from by decide), if_pos (show nI 6 = (6 : Int32) from by decide), ssize_i hsi, bd1_s], by rw [if_neg (show ¬ nI 6 = (0 : Int32) from by decide), if_neg (show ¬ nI 6 = (1 : Int32) from by decide), if_neg (show ¬ nI 6 = (2 : Int32) from by decide), if_neg (show ¬ nI 6 = (3 : Int32) from by decide), if_neg (show ¬ nI 6 = (4 : Int32) from by decide), if_neg (show ¬ nI 6 = (5 : Int32) from by decide), if_pos (show nI 6 = (6 : Int32) from by decide), h48]⟩
  · exact ⟨nI nc, by rw [if_neg (show ¬ nI 7 = (0 : Int32) from by decide), if_neg (show ¬ nI 7 = (1 : Int32) from by decide), if_neg (show ¬ nI 7 = (2 : Int32) from by decide), if_neg (show ¬ nI 7 = (3 : Int32) from by decide), if_neg (show ¬ nI 7 = (4 : Int32) from by decide), if_neg (show ¬ nI 7 = (5 : Int32) from by decide), if_neg (show ¬ nI 7 = (6 : Int32) from by decide), if_pos (show nI 7 = (7 : Int32) from by decide), ssize_c hsc, bd1_s], by rw [if_neg (show ¬ nI 7 = (0 : Int32) from by decide), if_neg (show ¬ nI 7 = (1 : Int32) from by decide), if_neg (show ¬ nI 7 = (2 : Int32) from by decide), if_neg (show ¬ nI 7 = (3 : Int32) from by decide), if_neg (show ¬ nI 7 = (4 : Int32) from by decide), if_neg (show ¬ nI 7 = (5 : Int32) from by decide), if_neg (show ¬ nI 7 = (6 : Int32) from by decide), if_pos (show nI 7 = (7 : Int32) from by decide), h49]⟩
  · exact ⟨nI (cntE (τ 7) 1 m), by rw [if_neg (show ¬ nI 8 = (0 : Int32) from by decide), if_neg (show ¬ nI 8 = (1 : Int32) from by decide), if_neg (show ¬ nI 8 = (2 : Int32) from by decide), if_neg (show ¬ nI 8 = (3 : Int32) from by decide), if_neg (show ¬ nI 8 = (4 : Int32) from by decide), if_neg (show ¬ nI 8 = (5 : Int32) from by decide), if_neg (show ¬ nI 8 = (6 : Int32) from by decide), if_neg (show ¬ nI 8 = (7 : Int32) from by decide), if_pos (show nI 8 = (8 : Int32) from by decide), h50], by rw [if_neg (show ¬ nI 8 = (0 : Int32) from by decide), if_neg (show ¬ nI 8 = (1 : Int32) from by decide), if_neg (show ¬ nI 8 = (2 : Int32) from by decide), if_neg (show ¬ nI 8 = (3 : Int32) from by decide), if_neg (show ¬ nI 8 = (4 : Int32) from by decide), if_neg (show ¬ nI 8 = (5 : Int32) from by decide), if_neg (show ¬ nI 8 = (6 : Int32) from by decide), if_neg (show ¬ nI 8 = (7 : Int32) from by decide), hlm, bd1_s]⟩
theorem eq_placed {σ τ : St} (h : Inv σ τ) (x : Int32) : ∃ r, fX5_placed σ x = some r ∧ fX6_placed τ x = some r := by
  obtain ⟨n, m, ni, nc, hg, hr, hp, _, _⟩ := h
  by_cases hy : ∃ j, j < 9 ∧ x = nI j
  · obtain ⟨j, hj, rfl⟩ := hy
    obtain ⟨r, e1, e2⟩ := qi_placed hp hj
    refine ⟨r, e1, ?_⟩
    unfold fX6_placed
    rw [win9_in hj, bd1_s, if_neg d_1_0, e2, bd1_s]
  · refine ⟨-1002, ?_, ?_⟩
    · unfold fX5_placed
      rw [if_neg (show ¬ x = (0 : Int32) from fun e => hy ⟨0, by omega, e⟩), if_neg (show ¬ x = (1 : Int32) from fun e => hy ⟨1, by omega, e⟩), if_neg (show ¬ x = (2 : Int32) from fun e => hy ⟨2, by omega, e⟩), if_neg (show ¬ x = (3 : Int32) from fun e => hy ⟨3, by omega, e⟩), if_neg (show ¬ x = (4 : Int32) from fun e => hy ⟨4, by omega, e⟩), if_neg (show ¬ x = (5 : Int32) from fun e => hy ⟨5, by omega, e⟩), if_neg (show ¬ x = (6 : Int32) from fun e => hy ⟨6, by omega, e⟩), if_neg (show ¬ x = (7 : Int32) from fun e => hy ⟨7, by omega, e⟩), if_neg (show ¬ x = (8 : Int32) from fun e => hy ⟨8, by omega, e⟩)]
    · unfold fX6_placed
      rw [win9_out hy, bd1_s, if_pos rfl]
theorem qi_count {σ τ : St} {n m ni nc j : Nat} (hg : RPg σ τ n) (hr : RPr σ τ m) (hp : Pla σ τ m ni nc) (h40 : σ 40 0 = τ 42 0) (h41 : σ 41 0 = τ 43 0) (hj : j < 8) : ∃ r, fX5_count σ (nI j) = some r ∧ fX6_howMany τ (nI j) = some r := by
  obtain ⟨⟨⟨_, _, _, hre, _⟩, _⟩, _⟩ := hp
  obtain ⟨h24, hs, ht, hit, hgp⟩ := hr
  obtain ⟨_, g42, g40, _⟩ := hg
  have hgs : fX6_gaps τ = some (nI (cnt5 (τ 2) m)) := by
    unfold fX6_gaps
    exact gp_loop h24 ht m 0 FU (by omega) (by unfold FU; omega)
  unfold fX5_count fX6_howMany fX6_howMany_b63
  have hj' : j = 0 ∨ j = 1 ∨ j = 2 ∨ j = 3 ∨ j = 4 ∨ j = 5 ∨ j = 6 ∨ j = 7 := by omega
  rcases hj' with rfl | rfl | rfl | rfl | rfl | rfl | rfl | rfl
  · exact ⟨nI m, by unfold fX0_size_p; rw [if_pos (show nI 0 = (0 : Int32) from by decide), bd1_s, hs], by rw [if_pos (show nI 0 = (0 : Int32) from by decide), ht]⟩
  · exact ⟨nI n, by unfold fX1_length; rw [if_neg (show ¬ nI 1 = (0 : Int32) from by decide), if_pos (show nI 1 = (1 : Int32) from by decide), bd1_s, g42], by rw [if_neg (show ¬ nI 1 = (0 : Int32) from by decide), if_pos (show nI 1 = (1 : Int32) from by decide), g40]⟩
  · exact ⟨σ 49 0, by unfold fX0_gaps_p; rw [if_neg (show ¬ nI 2 = (0 : Int32) from by decide), if_neg (show ¬ nI 2 = (1 : Int32) from by decide), if_pos (show nI 2 = (2 : Int32) from by decide), bd1_s], by rw [if_neg (show ¬ nI 2 = (0 : Int32) from by decide), if_neg (show ¬ nI 2 = (1 : Int32) from by decide), if_pos (show nI 2 = (2 : Int32) from by decide), hgs, bd1_s, hgp, cnt5_congr (fun i hi => (hit i hi).1)]⟩
  · exact ⟨σ 10 0, by rw [if_neg (show ¬ nI 3 = (0 : Int32) from by decide), if_neg (show ¬ nI 3 = (1 : Int32) from by decide), if_neg (show ¬ nI 3 = (2 : Int32) from by decide), if_pos (show nI 3 = (3 : Int32) from by decide), show Int32.toNatClampNeg (0 : Int32) = 0 from by decide], by rw [if_neg (show ¬ nI 3 = (0 : Int32) from by decide), if_neg (show ¬ nI 3 = (1 : Int32) from by decide), if_neg (show ¬ nI 3 = (2 : Int32) from by decide), if_pos (show nI 3 = (3 : Int32) from by decide), show nI 3 - (3 : Int32) = nI 0 from by decide, ck_t (ckN (i := 0) (N := 3) (by omega) (by omega)), nI_clamp (by omega), hre 0 (by omega)]⟩
  · exact ⟨σ 10 1, by rw [if_neg (show ¬ nI 4 = (0 : Int32) from by decide), if_neg (show ¬ nI 4 = (1 : Int32) from by decide), if_neg (show ¬ nI 4 = (2 : Int32) from by decide), if_neg (show ¬ nI 4 = (3 : Int32) from by decide), if_pos (show nI 4 = (4 : Int32) from by decide), show Int32.toNatClampNeg (1 : Int32) = 1 from by decide], by rw [if_neg (show ¬ nI 4 = (0 : Int32) from by decide), if_neg (show ¬ nI 4 = (1 : Int32) from by decide), if_neg (show ¬ nI 4 = (2 : Int32) from by decide), if_neg (show ¬ nI 4 = (3 : Int32) from by decide), if_pos (show nI 4 = (4 : Int32) from by decide), show nI 4 - (3 : Int32) = nI 1 from by decide, ck_t (ckN (i := 1) (N := 3) (by omega) (by omega)), nI_clamp (by omega), hre 1 (by omega)]⟩
  · exact ⟨σ 10 2, by rw [if_neg (show ¬ nI 5 = (0 : Int32) from by decide), if_neg (show ¬ nI 5 = (1 : Int32) from by decide), if_neg (show ¬ nI 5 = (2 : Int32) from by decide), if_neg (show ¬ nI 5 = (3 : Int32) from by decide), if_neg (show ¬ nI 5 = (4 : Int32) from by decide), if_pos (show nI 5 = (5 : Int32) from by decide), show Int32.toNatClampNeg (2 : Int32) = 2 from by decide], by rw [if_neg (show ¬ nI 5 = (0 : Int32) from by decide), if_neg (show ¬ nI 5 = (1 : Int32) from by decide), if_neg (show ¬ nI 5 = (2 : Int32) from by decide), if_neg (show ¬ nI 5 = (3 : Int32) from by decide), if_neg (show ¬ nI 5 = (4 : Int32) from by decide), if_pos (show nI 5 = (5 : Int32) from by decide), show nI 5 - (3 : Int32) = nI 2 from by decide, ck_t (ckN (i := 2) (N := 3) (by omega) (by omega)), nI_clamp (by omega), hre 2 (by omega)]⟩
  · exact ⟨σ 40 0, by rw [if_neg (show ¬ nI 6 = (0 : Int32) from by decide), if_neg (show ¬ nI 6 = (1 : Int32) from by decide), if_neg (show ¬ nI 6 = (2 : Int32) from by decide), if_neg (show ¬ nI 6 = (3 : Int32) from by decide), if_neg (show ¬ nI 6 = (4 : Int32) from by decide), if_neg (show ¬ nI 6 = (5 : Int32) from by decide), if_pos (show nI 6 = (6 : Int32) from by decide)], by rw [if_neg (show ¬ nI 6 = (0 : Int32) from by decide), if_neg (show ¬ nI 6 = (1 : Int32) from by decide), if_neg (show ¬ nI 6 = (2 : Int32) from by decide), if_neg (show ¬ nI 6 = (3 : Int32) from by decide), if_neg (show ¬ nI 6 = (4 : Int32) from by decide), if_neg (show ¬ nI 6 = (5 : Int32) from by decide), if_pos (show nI 6 = (6 : Int32) from by decide), h40]⟩
  · exact ⟨σ 41 0, by rw [if_neg (show ¬ nI 7 = (0 : Int32) from by decide), if_neg (show ¬ nI 7 = (1 : Int32) from by decide), if_neg (show ¬ nI 7 = (2 : Int32) from by decide), if_neg (show ¬ nI 7 = (3 : Int32) from by decide), if_neg (show ¬ nI 7 = (4 : Int32) from by decide), if_neg (show ¬ nI 7 = (5 : Int32) from by decide), if_neg (show ¬ nI 7 = (6 : Int32) from by decide), if_pos (show nI 7 = (7 : Int32) from by decide)], by rw [if_neg (show ¬ nI 7 = (0 : Int32) from by decide), if_neg (show ¬ nI 7 = (1 : Int32) from by decide), if_neg (show ¬ nI 7 = (2 : Int32) from by decide), if_neg (show ¬ nI 7 = (3 : Int32) from by decide), if_neg (show ¬ nI 7 = (4 : Int32) from by decide), if_neg (show ¬ nI 7 = (5 : Int32) from by decide), if_neg (show ¬ nI 7 = (6 : Int32) from by decide), if_pos (show nI 7 = (7 : Int32) from by decide), h41]⟩
theorem eq_count {σ τ : St} (h : Inv σ τ) (x : Int32) : ∃ r, fX5_count σ x = some r ∧ fX6_count τ x = some r := by
  obtain ⟨n, m, ni, nc, hg, hr, hp, h40, h41⟩ := h
  unfold fX6_count
  by_cases hy : ∃ j, j < 8 ∧ x = nI j
  · obtain ⟨j, hj, rfl⟩ := hy
    obtain ⟨r, e1, e2⟩ := qi_count hg hr hp h40 h41 hj
    exact ⟨r, e1, by rw [e2, bd1_s]⟩
  · refine ⟨-1002, ?_, ?_⟩
    · unfold fX5_count
      rw [if_neg (show ¬ x = (0 : Int32) from fun e => hy ⟨0, by omega, e⟩), if_neg (show ¬ x = (1 : Int32) from fun e => hy ⟨1, by omega, e⟩), if_neg (show ¬ x = (2 : Int32) from fun e => hy ⟨2, by omega, e⟩), if_neg (show ¬ x = (3 : Int32) from fun e => hy ⟨3, by omega, e⟩), if_neg (show ¬ x = (4 : Int32) from fun e => hy ⟨4, by omega, e⟩), if_neg (show ¬ x = (5 : Int32) from fun e => hy ⟨5, by omega, e⟩), if_neg (show ¬ x = (6 : Int32) from fun e => hy ⟨6, by omega, e⟩), if_neg (show ¬ x = (7 : Int32) from fun e => hy ⟨7, by omega, e⟩)]
    · unfold fX6_howMany
      rw [if_neg (show ¬ x = (0 : Int32) from fun e => hy ⟨0, by omega, e⟩), if_neg (show ¬ x = (1 : Int32) from fun e => hy ⟨1, by omega, e⟩), if_neg (show ¬ x = (2 : Int32) from fun e => hy ⟨2, by omega, e⟩), if_neg (show ¬ x = (3 : Int32) from fun e => hy ⟨3, by omega, e⟩), if_neg (show ¬ x = (4 : Int32) from fun e => hy ⟨4, by omega, e⟩), if_neg (show ¬ x = (5 : Int32) from fun e => hy ⟨5, by omega, e⟩), if_neg (show ¬ x = (6 : Int32) from fun e => hy ⟨6, by omega, e⟩), if_neg (show ¬ x = (7 : Int32) from fun e => hy ⟨7, by omega, e⟩), bd1_s]
/-! The digest: both mix the same numbers in the same order. -/
def dgS (f : Nat → Int32) (h : Int64) (i : Nat) : Nat → Int64
  | 0 => h
  | d + 1 => dgS f (31 * h + Int32.toInt64 (f i)) (i + 1) d
theorem dgS_add {f : Nat → Int32} : ∀ {a b i : Nat} {h : Int64}, dgS f h i (a + b) = dgS f (dgS f h i a) (i + a) b
  | 0, b, i, h => by rw [Nat.zero_add]; rfl
  | a + 1, b, i, h => by
    rw [show a + 1 + b = (a + b) + 1 from by omega]
    show dgS f (31 * h + Int32.toInt64 (f i)) (i + 1) (a + b) = dgS f (dgS f (31 * h + Int32.toInt64 (f i)) (i + 1) a) (i + (a + 1)) b
    rw [dgS_add, show i + 1 + a = i + (a + 1) from by omega]
theorem dgS_congr {f g : Nat → Int32} : ∀ {d i : Nat} {h : Int64}, (∀ j, i ≤ j → j < i + d → f j = g j) → dgS f h i d = dgS g h i d
  | 0, _, _, _ => rfl
  | d + 1, i, h, e => by
    show dgS f (31 * h + Int32.toInt64 (f i)) (i + 1) d = dgS g (31 * h + Int32.toInt64 (g i)) (i + 1) d
    rw [e i (Nat.le_refl _) (by omega), dgS_congr (fun j h1 h2 => e j (by omega) (by omega))]
theorem mix_eq (τ : St) (h x : Int64) : fX6_mix τ h x = some (31 * h + x) := rfl
theorem dg_digestItems_in {σ : St} {f : Nat → Int32} {i : Nat} (hq : ∀ j, j < 6 → fX5_item σ (nI i) (nI j) = some (f (6 * i + j))) (k5 : Int64 → Int32 → Option Int64) : ∀ (d j N : Nat) (h : Int64), j + d = 6 → d < N → fX5_digestItems_l20 σ k5 N h (nI i) (nI j) = k5 (dgS f h (6 * i + j) d) (nI (i + 1)) := by
  intro d
  induction d with
  | zero =>
    intro j N h hj hN
    obtain ⟨N, rfl⟩ : ∃ k, N = k + 1 := ⟨N - 1, by omega⟩
    have e : j = 6 := by omega
    subst e
    show fX5_digestItems_s20 σ k5 (fX5_digestItems_l20 σ k5 N) h (nI i) (nI 6) = _
    unfold fX5_digestItems_s20
    rw [if_pos (show (6 : Int32) ≤ nI 6 from by decide), nI_1]
    rfl
  | succ d ih =>
    intro j N h hj hN
    obtain ⟨N, rfl⟩ : ∃ k, N = k + 1 := ⟨N - 1, by omega⟩
    show fX5_digestItems_s20 σ k5 (fX5_digestItems_l20 σ k5 N) h (nI i) (nI j) = _
    unfold fX5_digestItems_s20
    rw [if_neg (show ¬ (6 : Int32) ≤ nI j from nI_ge (a := j) (b := 6) (by omega) (by omega)), hq j (by omega), bd1_s, nI_1, ih (j + 1) N _ (by omega) (by omega)]
    rfl
theorem dg_digestItems {σ : St} {f : Nat → Int32} {m : Nat} (hm : m ≤ 24) (hs : fX0_size_p σ = some (nI m)) (hq : ∀ i j, i < m → j < 6 → fX5_item σ (nI i) (nI j) = some (f (6 * i + j))) : ∀ (d i N : Nat) (h : Int64), i + d = m → d < N → fX5_digestItems_l5 σ N h (nI i) = some (dgS f h (6 * i) (6 * d)) := by
  intro d
  induction d with
  | zero =>
    intro i N h hi hN
    obtain ⟨N, rfl⟩ : ∃ k, N = k + 1 := ⟨N - 1, by omega⟩
    have e : i = m := by omega
    subst e
    show fX5_digestItems_s5 σ (fX5_digestItems_l5 σ N) h (nI i) = _
    unfold fX5_digestItems_s5
    rw [hs, bd1_s, if_pos (Int32.le_refl _)]
    rfl
  | succ d ih =>
    intro i N h hi hN
    obtain ⟨N, rfl⟩ : ∃ k, N = k + 1 := ⟨N - 1, by omega⟩
    have hi' : i < m := by omega
    show fX5_digestItems_s5 σ (fX5_digestItems_l5 σ N) h (nI i) = _
    unfold fX5_digestItems_s5
    rw [hs, bd1_s, if_neg (nI_ge hi' (by omega))]
    refine (dg_digestItems_in (f := f) (i := i) (fun j hj => hq i j hi' hj) (fX5_digestItems_l5 σ N) 6 0 FU h (by omega) (by unfold FU; omega)).trans ?_
    rw [ih (i + 1) N _ (by omega) (by omega), show 6 * (d + 1) = 6 + 6 * d from by omega, dgS_add, show 6 * (i + 1) = 6 * i + 6 from by omega]
    rfl
theorem dg_digestIslands_in {σ : St} {f : Nat → Int32} {i : Nat} (hq : ∀ j, j < 4 → fX5_island σ (nI i) (nI j) = some (f (4 * i + j))) (k5 : Int64 → Int32 → Option Int64) : ∀ (d j N : Nat) (h : Int64), j + d = 4 → d < N → fX5_digestIslands_l23 σ k5 N h (nI i) (nI j) = k5 (dgS f h (4 * i + j) d) (nI (i + 1)) := by
  intro d
  induction d with
  | zero =>
    intro j N h hj hN
    obtain ⟨N, rfl⟩ : ∃ k, N = k + 1 := ⟨N - 1, by omega⟩
    have e : j = 4 := by omega
    subst e
    show fX5_digestIslands_s23 σ k5 (fX5_digestIslands_l23 σ k5 N) h (nI i) (nI 4) = _
    unfold fX5_digestIslands_s23
    rw [if_pos (show (4 : Int32) ≤ nI 4 from by decide), nI_1]
    rfl
  | succ d ih =>
    intro j N h hj hN
    obtain ⟨N, rfl⟩ : ∃ k, N = k + 1 := ⟨N - 1, by omega⟩
    show fX5_digestIslands_s23 σ k5 (fX5_digestIslands_l23 σ k5 N) h (nI i) (nI j) = _
    unfold fX5_digestIslands_s23
    rw [if_neg (show ¬ (4 : Int32) ≤ nI j from nI_ge (a := j) (b := 4) (by omega) (by omega)), hq j (by omega), bd1_s, nI_1, ih (j + 1) N _ (by omega) (by omega)]
    rfl
theorem dg_digestIslands {σ : St} {f : Nat → Int32} {m : Nat} (hm : m ≤ 24) (hs : fX4_size_i σ = some (nI m)) (hq : ∀ i j, i < m → j < 4 → fX5_island σ (nI i) (nI j) = some (f (4 * i + j))) : ∀ (d i N : Nat) (h : Int64), i + d = m → d < N → fX5_digestIslands_l5 σ N h (nI i) = some (dgS f h (4 * i) (4 * d)) := by
  intro d
  induction d with
  | zero =>
    intro i N h hi hN
    obtain ⟨N, rfl⟩ : ∃ k, N = k + 1 := ⟨N - 1, by omega⟩
    have e : i = m := by omega
    subst e
    show fX5_digestIslands_s5 σ (fX5_digestIslands_l5 σ N) h (nI i) = _
    unfold fX5_digestIslands_s5
    rw [hs, bd1_s, if_pos (Int32.le_refl _)]
    rfl
  | succ d ih =>
    intro i N h hi hN
    obtain ⟨N, rfl⟩ : ∃ k, N = k + 1 := ⟨N - 1, by omega⟩
    have hi' : i < m := by omega
    show fX5_digestIslands_s5 σ (fX5_digestIslands_l5 σ N) h (nI i) = _
    unfold fX5_digestIslands_s5
    rw [hs, bd1_s, if_neg (nI_ge hi' (by omega))]
    refine (dg_digestIslands_in (f := f) (i := i) (fun j hj => hq i j hi' hj) (fX5_digestIslands_l5 σ N) 4 0 FU h (by omega) (by unfold FU; omega)).trans ?_
    rw [ih (i + 1) N _ (by omega) (by omega), show 4 * (d + 1) = 4 + 4 * d from by omega, dgS_add, show 4 * (i + 1) = 4 * i + 4 from by omega]
    rfl
theorem dg_digestConstants_in {σ : St} {f : Nat → Int32} {i : Nat} (hq : ∀ j, j < 4 → fX5_constant σ (nI i) (nI j) = some (f (4 * i + j))) (k5 : Int64 → Int32 → Option Int64) : ∀ (d j N : Nat) (h : Int64), j + d = 4 → d < N → fX5_digestConstants_l23 σ k5 N h (nI i) (nI j) = k5 (dgS f h (4 * i + j) d) (nI (i + 1)) := by
  intro d
  induction d with
  | zero =>
    intro j N h hj hN
    obtain ⟨N, rfl⟩ : ∃ k, N = k + 1 := ⟨N - 1, by omega⟩
    have e : j = 4 := by omega
    subst e
    show fX5_digestConstants_s23 σ k5 (fX5_digestConstants_l23 σ k5 N) h (nI i) (nI 4) = _
    unfold fX5_digestConstants_s23
    rw [if_pos (show (4 : Int32) ≤ nI 4 from by decide), nI_1]
    rfl
  | succ d ih =>
    intro j N h hj hN
    obtain ⟨N, rfl⟩ : ∃ k, N = k + 1 := ⟨N - 1, by omega⟩
    show fX5_digestConstants_s23 σ k5 (fX5_digestConstants_l23 σ k5 N) h (nI i) (nI j) = _
    unfold fX5_digestConstants_s23
    rw [if_neg (show ¬ (4 : Int32) ≤ nI j from nI_ge (a := j) (b := 4) (by omega) (by omega)), hq j (by omega), bd1_s, nI_1, ih (j + 1) N _ (by omega) (by omega)]
    rfl
theorem dg_digestConstants {σ : St} {f : Nat → Int32} {m : Nat} (hm : m ≤ 24) (hs : fX4_size_c σ = some (nI m)) (hq : ∀ i j, i < m → j < 4 → fX5_constant σ (nI i) (nI j) = some (f (4 * i + j))) : ∀ (d i N : Nat) (h : Int64), i + d = m → d < N → fX5_digestConstants_l5 σ N h (nI i) = some (dgS f h (4 * i) (4 * d)) := by
  intro d
  induction d with
  | zero =>
    intro i N h hi hN
    obtain ⟨N, rfl⟩ : ∃ k, N = k + 1 := ⟨N - 1, by omega⟩
    have e : i = m := by omega
    subst e
    show fX5_digestConstants_s5 σ (fX5_digestConstants_l5 σ N) h (nI i) = _
    unfold fX5_digestConstants_s5
    rw [hs, bd1_s, if_pos (Int32.le_refl _)]
    rfl
  | succ d ih =>
    intro i N h hi hN
    obtain ⟨N, rfl⟩ : ∃ k, N = k + 1 := ⟨N - 1, by omega⟩
    have hi' : i < m := by omega
    show fX5_digestConstants_s5 σ (fX5_digestConstants_l5 σ N) h (nI i) = _
    unfold fX5_digestConstants_s5
    rw [hs, bd1_s, if_neg (nI_ge hi' (by omega))]
    refine (dg_digestConstants_in (f := f) (i := i) (fun j hj => hq i j hi' hj) (fX5_digestConstants_l5 σ N) 4 0 FU h (by omega) (by unfold FU; omega)).trans ?_
    rw [ih (i + 1) N _ (by omega) (by omega), show 4 * (d + 1) = 4 + 4 * d from by omega, dgS_add, show 4 * (i + 1) = 4 * i + 4 from by omega]
    rfl
theorem dm_it {τ : St} {f : Nat → Int32} {m : Nat} (hm : m ≤ 24) (hs : τ 41 0 = nI m) (hq : ∀ i j, i < m → j < 6 → fX6_itemNow τ (nI i) (nI j) = some (f (6 * i + j))) : ∀ (d y N : Nat) (h : Int64), y + d = 6 * m → d < N → fX6_digest_l9 τ N h (nI y) = fX6_digest_l45 τ FU (dgS f h y d) 0 := by
  intro d
  induction d with
  | zero =>
    intro y N h hy hN
    obtain ⟨N, rfl⟩ : ∃ k, N = k + 1 := ⟨N - 1, by omega⟩
    show fX6_digest_s9 τ (fX6_digest_l9 τ N) h (nI y) = _
    unfold fX6_digest_s9
    rw [hs, show (6 : Int32) = nI 6 from rfl, pk_mul, if_pos (nI_le (by omega) (by omega))]
    rfl
  | succ d ih =>
    intro y N h hy hN
    obtain ⟨N, rfl⟩ : ∃ k, N = k + 1 := ⟨N - 1, by omega⟩
    have hy' : y < 6 * m := by omega
    show fX6_digest_s9 τ (fX6_digest_l9 τ N) h (nI y) = _
    unfold fX6_digest_s9
    rw [hs, show (6 : Int32) = nI 6 from rfl, pk_mul, if_neg (nI_ge hy' (by omega)), pk_rem (a := y) (d := 6) (by omega) (by omega) (by omega), pk_div (a := y) (d := 6) (by omega) (by omega) (by omega), hq (y / 6) (y % 6) (by omega) (by omega), bd1_s, mix_eq, bd1_s, nI_1, Nat.div_add_mod, ih (y + 1) N _ (by omega) (by omega)]
    rfl
theorem dm_is {τ : St} {f : Nat → Int32} {m : Nat} (hm : m ≤ 24) (hs : τ 48 0 = nI m) (hq : ∀ i j, i < m → j < 4 → fX6_islandNow τ (nI i) (nI j) = some (f (4 * i + j))) : ∀ (d y N : Nat) (h : Int64), y + d = 4 * m → d < N → fX6_digest_l45 τ N h (nI y) = fX6_digest_l78 τ FU (dgS f h y d) 0 := by
  intro d
  induction d with
  | zero =>
    intro y N h hy hN
    obtain ⟨N, rfl⟩ : ∃ k, N = k + 1 := ⟨N - 1, by omega⟩
    show fX6_digest_s45 τ (fX6_digest_l45 τ N) h (nI y) = _
    unfold fX6_digest_s45
    rw [hs, show (4 : Int32) = nI 4 from rfl, pk_mul, if_pos (nI_le (by omega) (by omega))]
    rfl
  | succ d ih =>
    intro y N h hy hN
    obtain ⟨N, rfl⟩ : ∃ k, N = k + 1 := ⟨N - 1, by omega⟩
    have hy' : y < 4 * m := by omega
    show fX6_digest_s45 τ (fX6_digest_l45 τ N) h (nI y) = _
    unfold fX6_digest_s45
    rw [hs, show (4 : Int32) = nI 4 from rfl, pk_mul, if_neg (nI_ge hy' (by omega)), pk_rem (a := y) (d := 4) (by omega) (by omega) (by omega), pk_div (a := y) (d := 4) (by omega) (by omega) (by omega), hq (y / 4) (y % 4) (by omega) (by omega), bd1_s, mix_eq, bd1_s, nI_1, Nat.div_add_mod, ih (y + 1) N _ (by omega) (by omega)]
    rfl
theorem dm_co {τ : St} {f : Nat → Int32} {m : Nat} (hm : m ≤ 24) (hs : τ 49 0 = nI m) (hq : ∀ i j, i < m → j < 4 → fX6_constantNow τ (nI i) (nI j) = some (f (4 * i + j))) : ∀ (d y N : Nat) (h : Int64), y + d = 4 * m → d < N → fX6_digest_l78 τ N h (nI y) = fX6_digest_l111 τ FU (dgS f h y d) 0 := by
  intro d
  induction d with
  | zero =>
    intro y N h hy hN
    obtain ⟨N, rfl⟩ : ∃ k, N = k + 1 := ⟨N - 1, by omega⟩
    show fX6_digest_s78 τ (fX6_digest_l78 τ N) h (nI y) = _
    unfold fX6_digest_s78
    rw [hs, show (4 : Int32) = nI 4 from rfl, pk_mul, if_pos (nI_le (by omega) (by omega))]
    rfl
  | succ d ih =>
    intro y N h hy hN
    obtain ⟨N, rfl⟩ : ∃ k, N = k + 1 := ⟨N - 1, by omega⟩
    have hy' : y < 4 * m := by omega
    show fX6_digest_s78 τ (fX6_digest_l78 τ N) h (nI y) = _
    unfold fX6_digest_s78
    rw [hs, show (4 : Int32) = nI 4 from rfl, pk_mul, if_neg (nI_ge hy' (by omega)), pk_rem (a := y) (d := 4) (by omega) (by omega) (by omega), pk_div (a := y) (d := 4) (by omega) (by omega) (by omega), hq (y / 4) (y % 4) (by omega) (by omega), bd1_s, mix_eq, bd1_s, nI_1, Nat.div_add_mod, ih (y + 1) N _ (by omega) (by omega)]
    rfl
theorem dg_pl {σ : St} {f : Nat → Int32} (hq : ∀ j, j < 9 → fX5_placed σ (nI j) = some (f j)) : ∀ (d j N : Nat) (h : Int64), j + d = 9 → d < N → fX5_digest_l22 σ N h (nI j) = fX5_digest_l49 σ FU (dgS f h j d) 0 := by
  intro d
  induction d with
  | zero =>
    intro j N h hj hN
    obtain ⟨N, rfl⟩ : ∃ k, N = k + 1 := ⟨N - 1, by omega⟩
    have e : j = 9 := by omega
    subst e
    show fX5_digest_s22 σ (fX5_digest_l22 σ N) h (nI 9) = _
    unfold fX5_digest_s22
    rw [if_pos (show (9 : Int32) ≤ nI 9 from by decide)]
    rfl
  | succ d ih =>
    intro j N h hj hN
    obtain ⟨N, rfl⟩ : ∃ k, N = k + 1 := ⟨N - 1, by omega⟩
    show fX5_digest_s22 σ (fX5_digest_l22 σ N) h (nI j) = _
    unfold fX5_digest_s22
    rw [if_neg (show ¬ (9 : Int32) ≤ nI j from nI_ge (a := j) (b := 9) (by omega) (by omega)), hq j (by omega), bd1_s, nI_1, ih (j + 1) N _ (by omega) (by omega)]
    rfl
theorem dg_ct {σ : St} {f : Nat → Int32} (hq : ∀ j, j < 8 → fX5_count σ (nI j) = some (f j)) : ∀ (d j N : Nat) (h : Int64), j + d = 8 → d < N → fX5_digest_l84 σ N h (nI j) = some (dgS f h j d) := by
  intro d
  induction d with
  | zero =>
    intro j N h hj hN
    obtain ⟨N, rfl⟩ : ∃ k, N = k + 1 := ⟨N - 1, by omega⟩
    have e : j = 8 := by omega
    subst e
    show fX5_digest_s84 σ (fX5_digest_l84 σ N) h (nI 8) = _
    unfold fX5_digest_s84
    rw [if_pos (show (8 : Int32) ≤ nI 8 from by decide)]
    rfl
  | succ d ih =>
    intro j N h hj hN
    obtain ⟨N, rfl⟩ : ∃ k, N = k + 1 := ⟨N - 1, by omega⟩
    show fX5_digest_s84 σ (fX5_digest_l84 σ N) h (nI j) = _
    unfold fX5_digest_s84
    rw [if_neg (show ¬ (8 : Int32) ≤ nI j from nI_ge (a := j) (b := 8) (by omega) (by omega)), hq j (by omega), bd1_s, nI_1, ih (j + 1) N _ (by omega) (by omega)]
    rfl
theorem dm_pl {τ : St} {f : Nat → Int32} (hq : ∀ j, j < 9 → fX6_placedNow τ (nI j) = some (f j)) : ∀ (d j N : Nat) (h : Int64), j + d = 9 → d < N → fX6_digest_l111 τ N h (nI j) = fX6_digest_l135 τ FU (dgS f h j d) 0 := by
  intro d
  induction d with
  | zero =>
    intro j N h hj hN
    obtain ⟨N, rfl⟩ : ∃ k, N = k + 1 := ⟨N - 1, by omega⟩
    have e : j = 9 := by omega
    subst e
    show fX6_digest_s111 τ (fX6_digest_l111 τ N) h (nI 9) = _
    unfold fX6_digest_s111
    rw [if_pos (show (9 : Int32) ≤ nI 9 from by decide)]
    rfl
  | succ d ih =>
    intro j N h hj hN
    obtain ⟨N, rfl⟩ : ∃ k, N = k + 1 := ⟨N - 1, by omega⟩
    show fX6_digest_s111 τ (fX6_digest_l111 τ N) h (nI j) = _
    unfold fX6_digest_s111
    rw [if_neg (show ¬ (9 : Int32) ≤ nI j from nI_ge (a := j) (b := 9) (by omega) (by omega)), hq j (by omega), bd1_s, mix_eq, bd1_s, nI_1, ih (j + 1) N _ (by omega) (by omega)]
    rfl
theorem dm_ct {τ : St} {f : Nat → Int32} (hq : ∀ j, j < 8 → fX6_howMany τ (nI j) = some (f j)) : ∀ (d j N : Nat) (h : Int64), j + d = 8 → d < N → fX6_digest_l162 τ N h (nI j) = some (dgS f h j d, dgS f h j d) := by
  intro d
  induction d with
  | zero =>
    intro j N h hj hN
    obtain ⟨N, rfl⟩ : ∃ k, N = k + 1 := ⟨N - 1, by omega⟩
    have e : j = 8 := by omega
    subst e
    show fX6_digest_s162 τ (fX6_digest_l162 τ N) h (nI 8) = _
    unfold fX6_digest_s162
    rw [if_pos (show (8 : Int32) ≤ nI 8 from by decide)]
    rfl
  | succ d ih =>
    intro j N h hj hN
    obtain ⟨N, rfl⟩ : ∃ k, N = k + 1 := ⟨N - 1, by omega⟩
    show fX6_digest_s162 τ (fX6_digest_l162 τ N) h (nI j) = _
    unfold fX6_digest_s162
    rw [if_neg (show ¬ (8 : Int32) ≤ nI j from nI_ge (a := j) (b := 8) (by omega) (by omega)), hq j (by omega), bd1_s, mix_eq, bd1_s, nI_1, ih (j + 1) N _ (by omega) (by omega)]
    rfl
theorem dg_le {σ : St} {n : Nat} (h50 : n ≤ 50) (hs : σ 42 0 = nI n) : ∀ (d i N : Nat) (h : Int64), i + d = n → d < N → fX5_digest_l49 σ N h (nI i) = fX5_digest_l84 σ FU (dgS (σ 2) h i d) 0 := by
  have hlen : fX1_length σ = some (nI n) := by unfold fX1_length; rw [hs]
  intro d
  induction d with
  | zero =>
    intro i N h hi hN
    obtain ⟨N, rfl⟩ : ∃ k, N = k + 1 := ⟨N - 1, by omega⟩
    have e : i = n := by omega
    subst e
    show fX5_digest_s49 σ (fX5_digest_l49 σ N) h (nI i) = _
    unfold fX5_digest_s49
    rw [hlen, bd1_s, if_pos (Int32.le_refl _)]
    rfl
  | succ d ih =>
    intro i N h hi hN
    obtain ⟨N, rfl⟩ : ∃ k, N = k + 1 := ⟨N - 1, by omega⟩
    have hi' : i < n := by omega
    show fX5_digest_s49 σ (fX5_digest_l49 σ N) h (nI i) = _
    unfold fX5_digest_s49
    rw [hlen, bd1_s, if_neg (nI_ge hi' (by omega)), letter_at h50 hs hi', bd1_s, nI_1, ih (i + 1) N _ (by omega) (by omega)]
    rfl
theorem dm_le {τ : St} {n : Nat} (h50 : n ≤ 50) (hs : τ 40 0 = nI n) : ∀ (d i N : Nat) (h : Int64), i + d = n → d < N → fX6_digest_l135 τ N h (nI i) = fX6_digest_l162 τ FU (dgS (τ 1) h i d) 0 := by
  intro d
  induction d with
  | zero =>
    intro i N h hi hN
    obtain ⟨N, rfl⟩ : ∃ k, N = k + 1 := ⟨N - 1, by omega⟩
    have e : i = n := by omega
    subst e
    show fX6_digest_s135 τ (fX6_digest_l135 τ N) h (nI i) = _
    unfold fX6_digest_s135
    rw [hs, if_pos (Int32.le_refl _)]
    rfl
  | succ d ih =>
    intro i N h hi hN
    obtain ⟨N, rfl⟩ : ∃ k, N = k + 1 := ⟨N - 1, by omega⟩
    have hi' : i < n := by omega
    show fX6_digest_s135 τ (fX6_digest_l135 τ N) h (nI i) = _
    unfold fX6_digest_s135
    rw [hs, if_neg (nI_ge hi' (by omega)), ck_t (ckN (i := i) (N := 50) (by omega) (by omega)), nI_clamp (by omega), mix_eq, bd1_s, nI_1, ih (i + 1) N _ (by omega) (by omega)]
    rfl
def fIt (σ : St) (y : Nat) : Int32 := (fX5_item σ (nI (y / 6)) (nI (y % 6))).getD 0
def fIs (σ : St) (y : Nat) : Int32 := (fX5_island σ (nI (y / 4)) (nI (y % 4))).getD 0
def fCo (σ : St) (y : Nat) : Int32 := (fX5_constant σ (nI (y / 4)) (nI (y % 4))).getD 0
def fPl (σ : St) (y : Nat) : Int32 := (fX5_placed σ (nI y)).getD 0
def fCt (σ : St) (y : Nat) : Int32 := (fX5_count σ (nI y)).getD 0
theorem eq_digest {σ τ : St} (h : Inv σ τ) (hh : Int64) : ∃ r, fX5_digest σ = some r ∧ fX6_digest τ hh = some (r, r) := by
  obtain ⟨n, m, ni, nc, hg, hr, hp, h40, h41⟩ := h
  obtain ⟨h50, g42, g40, gl⟩ := id hg
  obtain ⟨h24, hs, ht, _⟩ := id hr
  obtain ⟨⟨⟨_, _, _, _, hsi, hsc, h48, h49, _⟩, _⟩, _⟩ := id hp
  have hni := hsi.1
  have hnc := hsc.1
  have qI : ∀ i j, i < m → j < 6 → fX5_item σ (nI i) (nI j) = some (fIt σ (6 * i + j)) ∧ fX6_itemNow τ (nI i) (nI j) = some (fIt σ (6 * i + j)) := by
    intro i j hi hj
    obtain ⟨r, e1, e2⟩ := qi_item hr hp hi hj
    have e : fIt σ (6 * i + j) = r := by
      unfold fIt
      rw [show (6 * i + j) / 6 = i from by omega, show (6 * i + j) % 6 = j from by omega, e1]
      rfl
    rw [e]; exact ⟨e1, e2⟩
  have qS : ∀ i j, i < ni → j < 4 → fX5_island σ (nI i) (nI j) = some (fIs σ (4 * i + j)) ∧ fX6_islandNow τ (nI i) (nI j) = some (fIs σ (4 * i + j)) := by
    intro i j hi hj
    obtain ⟨r, e1, e2⟩ := qi_island hp hi hj
    have e : fIs σ (4 * i + j) = r := by
      unfold fIs
      rw [show (4 * i + j) / 4 = i from by omega, show (4 * i + j) % 4 = j from by omega, e1]
      rfl
    rw [e]; exact ⟨e1, e2⟩
  have qC : ∀ i j, i < nc → j < 4 → fX5_constant σ (nI i) (nI j) = some (fCo σ (4 * i + j)) ∧ fX6_constantNow τ (nI i) (nI j) = some (fCo σ (4 * i + j)) := by
    intro i j hi hj
    obtain ⟨r, e1, e2⟩ := qi_constant hp hi hj
    have e : fCo σ (4 * i + j) = r := by
      unfold fCo
      rw [show (4 * i + j) / 4 = i from by omega, show (4 * i + j) % 4 = j from by omega, e1]
      rfl
    rw [e]; exact ⟨e1, e2⟩
  have qP : ∀ j, j < 9 → fX5_placed σ (nI j) = some (fPl σ j) ∧ fX6_placedNow τ (nI j) = some (fPl σ j) := by
    intro j hj
    obtain ⟨r, e1, e2⟩ := qi_placed hp hj
    have e : fPl σ j = r := by unfold fPl; rw [e1]; rfl
    rw [e]; exact ⟨e1, e2⟩
  have qN : ∀ j, j < 8 → fX5_count σ (nI j) = some (fCt σ j) ∧ fX6_howMany τ (nI j) = some (fCt σ j) := by
    intro j hj
    obtain ⟨r, e1, e2⟩ := qi_count hg hr hp h40 h41 hj
    have e : fCt σ j = r := by unfold fCt; rw [e1]; rfl
    rw [e]; exact ⟨e1, e2⟩
  have eL : ∀ x : Int64, dgS (σ 2) x 0 n = dgS (τ 1) x 0 n := fun x => dgS_congr (fun j _ h2 => (gl j (by omega)).1)
  refine ⟨dgS (fCt σ) (dgS (τ 1) (dgS (fPl σ) (dgS (fCo σ) (dgS (fIs σ) (dgS (fIt σ) 1637 0 (6 * m)) 0 (4 * ni)) 0 (4 * nc)) 0 9) 0 n) 0 8, ?_, ?_⟩
  · unfold fX5_digest fX5_digestItems fX5_digestIslands fX5_digestConstants
    rw [show fX5_digestItems_l5 σ FU 1637 0 = some (dgS (fIt σ) 1637 0 (6 * m)) from dg_digestItems (f := fIt σ) h24 (by unfold fX0_size_p; rw [hs]) (fun i j hi hj => (qI i j hi hj).1) m 0 FU 1637 (by omega) (by unfold FU; omega), bd1_s]
    rw [show fX5_digestIslands_l5 σ FU (dgS (fIt σ) 1637 0 (6 * m)) 0 = some (dgS (fIs σ) (dgS (fIt σ) 1637 0 (6 * m)) 0 (4 * ni)) from dg_digestIslands (f := fIs σ) (by omega) (ssize_i hsi) (fun i j hi hj => (qS i j hi hj).1) ni 0 FU _ (by omega) (by unfold FU; omega), bd1_s]
    rw [show fX5_digestConstants_l5 σ FU (dgS (fIs σ) (dgS (fIt σ) 1637 0 (6 * m)) 0 (4 * ni)) 0 = some (dgS (fCo σ) (dgS (fIs σ) (dgS (fIt σ) 1637 0 (6 * m)) 0 (4 * ni)) 0 (4 * nc)) from dg_digestConstants (f := fCo σ) (by omega) (ssize_c hsc) (fun i j hi hj => (qC i j hi hj).1) nc 0 FU _ (by omega) (by unfold FU; omega), bd1_s]
    refine (dg_pl (f := fPl σ) (fun j hj => (qP j hj).1) 9 0 FU _ (by omega) (by unfold FU; omega)).trans ?_
    refine (dg_le h50 g42 n 0 FU _ (by omega) (by unfold FU; omega)).trans ?_
    rw [eL]
    exact dg_ct (f := fCt σ) (fun j hj => (qN j hj).1) 8 0 FU _ (by omega) (by unfold FU; omega)
  · unfold fX6_digest
    refine (dm_it (f := fIt σ) h24 ht (fun i j hi hj => (qI i j hi hj).2) (6 * m) 0 FU _ (by omega) (by unfold FU; omega)).trans ?_
    refine (dm_is (f := fIs σ) (m := ni) (by omega) h48 (fun i j hi hj => (qS i j hi hj).2) (4 * ni) 0 FU _ (by omega) (by unfold FU; omega)).trans ?_
    refine (dm_co (f := fCo σ) (m := nc) (by omega) h49 (fun i j hi hj => (qC i j hi hj).2) (4 * nc) 0 FU _ (by omega) (by unfold FU; omega)).trans ?_
    refine (dm_pl (f := fPl σ) (fun j hj => (qP j hj).2) 9 0 FU _ (by omega) (by unfold FU; omega)).trans ?_
    refine (dm_le h50 g40 n 0 FU _ (by omega) (by unfold FU; omega)).trans ?_
    exact dm_ct (f := fCt σ) (fun j hj => (qN j hj).2) 8 0 FU _ (by omega) (by unfold FU; omega)
