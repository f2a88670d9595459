/-! The mending of a round: both sides mend the same, or both mend nothing. -/
theorem con_both {s t : St} {m ni nc ld : Nat} (hl : LL s t m ni nc) (hx : LX s t m nc) (hld : ld < m) :
    (fX2_bringsConstant s (nI ld) = some (0, s) ∧ fX6_putConstant t (nI ld) = some (0, si (si (si t 53 0) 54 1) 55 (nI ld))) ∨
    (nc < 16 ∧ ∃ r, r < m ∧ s 8 r = 5 ∧ fX2_bringsConstant s (nI ld) = some (1, addK_c s nc (t 3 ld) r) ∧ fX6_putConstant t (nI ld) = some (1, si (sa (sa t 10 nc (t 3 ld)) 11 nc (nI r)) 49 (nI (nc + 1)))) := by
  obtain ⟨⟨hp, hq, hit, hre, hsi, hsc, h48, h49, hki, hkc, hg, hlb, hlB⟩, l25, b25, li, bi, lc, bc, le, l53, l52, lz⟩ := hl
  have hm := hp.1
  have hnc := hsc.1
  have hX : ∀ r, r < m → s 8 r = 5 → fX2_nextConstantIn s (nI r) = some (t 16 r) := by
    intro r hr h5
    obtain ⟨_, S, c, h1, h2, h3, h4⟩ := le r hr h5
    rw [h4]; exact nextC_eq (by omega) h1 h2 h3
  have eC : fX2_bringsConstant s (nI ld) = (if lastS (okC s (t 16) (s 25 ld)) (-1) (ld + 1) (m - (ld + 1)) = -1 then some (0, s) else bd1 (fX0_toldOf_p s (nI ld)) fun r9 => bd2 (fX4_add_c s r9 (lastS (okC s (t 16) (s 25 ld)) (-1) (ld + 1) (m - (ld + 1)))) fun r12 s13 => (if r12 = 0 then (some ((0 : Int32), s13)) else (some ((1 : Int32), s13)))) := by
    unfold fX2_bringsConstant
    rw [addressOf_in (by omega), bd1_s, nI_1]
    exact brC_loop hp hX (m - (ld + 1)) (ld + 1) FU (-1) (by omega) (by unfold FU; omega)
  have eM : fX6_putConstant t (nI ld) = (if lastS (okM t (t 12 ld)) (-1) (ld + 1) (m - (ld + 1)) = -1 ∨ nc = 16 then some (0, si (si (si t 53 0) 54 1) 55 (nI ld)) else some (1, si (sa (sa t 10 nc (t 3 ld)) 11 nc (lastS (okM t (t 12 ld)) (-1) (ld + 1) (m - (ld + 1)))) 49 (nI (nc + 1)))) := by
    unfold fX6_putConstant
    rw [nI_1]
    exact puM_loop hq (by omega) h49 hnc (m - (ld + 1)) (ld + 1) FU (-1) (by omega) (by unfold FU; omega)
  have ec : lastS (okC s (t 16) (s 25 ld)) (-1) (ld + 1) (m - (ld + 1)) = lastS (okM t (t 12 ld)) (-1) (ld + 1) (m - (ld + 1)) := lastS_congr (fun j h1 h2 => by
    have hj : j < m := by omega
    unfold okC okM
    rw [← (hit j hj).1, ← hre 2 (by omega), ← l25 ld hld]
    exact decide_eq_decide.mpr ⟨fun h => ⟨h.1, h.2.2⟩, fun h => ⟨h.1, hx.1 ld j (by omega) hj h.1, h.2⟩⟩)
  rw [ec] at eC
  rcases lastS_val (P := okM t (t 12 ld)) (d := m - (ld + 1)) (i := ld + 1) (g := -1) with e | ⟨r, h1, h2, e, ho⟩
  · rw [if_pos e] at eC
    rw [if_pos (Or.inl e)] at eM
    exact Or.inl ⟨eC, eM⟩
  · have hr : r < m := by omega
    have h5 : s 8 r = 5 := by
      have := of_decide_eq_true (show decide (t 2 r = 5 ∧ ¬ t 4 2 < t 16 r - t 12 ld) = true from ho)
      rw [(hit r hr).1]; exact this.1
    rw [e] at eC eM
    rw [if_neg (nI_m1 (by omega)), told_in_p hp.2.1 hm hld, bd1_s] at eC
    by_cases q : nc = 16
    · rw [if_pos (Or.inr q)] at eM
      rw [q] at hsc
      rw [sadd_full_c hsc, bd2_s, if_pos rfl] at eC
      exact Or.inl ⟨eC, eM⟩
    · have hn : nc < 16 := by omega
      rw [if_neg (fun z => z.elim (nI_m1 (by omega)) q)] at eM
      rw [sadd_in_c hsc hn (by omega), bd2_s, if_neg d_1_0, (hit ld hld).2.1] at eC
      exact Or.inr ⟨hn, r, hr, h5, eC, eM⟩
theorem isl_both {s t : St} {m ni nc l : Nat} {frm w who : Int32} (hl : LL s t m ni nc) (h8 : l < 8) :
    (fX2_bringsIsland s frm (nI l) = some (0, s) ∧ fX6_putIsland t frm (nI l) w who = some (0, si (si (si t 53 0) 54 w) 55 who)) ∨
    (ni < 12 ∧ ∃ r, r < m ∧ s 8 r = 5 ∧ fX2_bringsIsland s frm (nI l) = some (1, addK_i s ni (nI l) r) ∧ fX6_putIsland t frm (nI l) w who = some (1, si (sa (sa t 8 ni (nI l)) 9 ni (nI r)) 48 (nI (ni + 1)))) := by
  obtain ⟨⟨hp, hq, hit, hre, hsi, hsc, h48, h49, hki, hkc, hg, hlb, hlB⟩, l25, b25, li, bi, lc, bc, le, l53, l52, lz⟩ := hl
  have hm := hp.1
  have hni := hsi.1
  have eC := brI_eq (frm := frm) hp h8
  have eM := putI_eq (frm := frm) (by_ := w) (who := who) hq h8 h48 hni
  have ec : gapS (s 8) (endI s) (s 27 l) (s 10 1) frm (-1) (farI frm (s 27 l)) 0 m = gapS (t 2) (t 15) (t 17 l) (t 4 1) frm (-1) (farI frm (t 17 l)) 0 m := by
    rw [hlb l h8, hre 1 (by omega)]
    exact gapS_congr (fun j _ h2 => ⟨(hit j (by omega)).1, fun h5 => (le j (by omega) h5).1⟩)
  rw [ec] at eC
  rcases gapS_val (kd := t 2) (E := t 15) (to := t 17 l) (r1 := t 4 1) (frm := frm) (d := m) (i := 0) (g := -1) (l := farI frm (t 17 l)) with e | ⟨r, h1, h2, e, h5⟩
  · rw [if_pos e] at eC
    rw [if_pos (Or.inl e)] at eM
    exact Or.inl ⟨eC, eM⟩
  · have hr : r < m := by omega
    rw [e] at eC eM
    rw [if_neg (nI_m1 (by omega))] at eC
    by_cases q : ni = 12
    · rw [if_pos (Or.inr q)] at eM
      rw [q] at hsi
      rw [sadd_full_i hsi, bd2_s, if_pos rfl] at eC
      exact Or.inl ⟨eC, eM⟩
    · have hn : ni < 12 := by omega
      rw [if_neg (fun z => z.elim (nI_m1 (by omega)) q)] at eM
      rw [sadd_in_i hsi hn (by omega), bd2_s, if_neg d_1_0] at eC
      exact Or.inr ⟨hn, r, hr, by rw [(hit r hr).1]; exact h5, eC, eM⟩
def KC (s u : St) : Prop := ∀ j, ¬ (j = 24 ∨ j = 50 ∨ (13 ≤ j ∧ j ≤ 16) ∨ (19 ≤ j ∧ j ≤ 22) ∨ j = 56 ∨ j = 57) → u j = s j
def KM (t v : St) : Prop := ∀ j, ¬ ((7 ≤ j ∧ j ≤ 11) ∨ j = 48 ∨ j = 49) → v j = t j
/-- one thing more was mended -/
def Mend1 (s t u v : St) (m ni nc : Nat) : Prop := ∃ ni' nc', BB u v m ni' nc' ∧ u 50 0 = nI (cntE (v 7) 1 m) ∧ cntE (v 7) 1 m + ni' + nc' = cntE (t 7) 1 m + ni + nc + 1 ∧ KC s u ∧ KM t v
/-- nothing was mended: there is nothing, or it fails -/
def Mend0 (s t u v : St) : Prop := (∀ j, ¬ (j = 54 ∨ j = 55) → u j = s j) ∧ (∀ j, ¬ (j = 53 ∨ j = 54 ∨ j = 55) → v j = t j) ∧ ((u = s ∧ v = t) ∨ ∃ w x : Int32, ¬ w = 0 ∧ u 54 0 = w ∧ v 54 0 = w ∧ u 55 0 = x ∧ v 55 0 = x ∧ v 53 0 = 0)
theorem fail_0 {s t : St} {w x : Int32} (hw : ¬ w = 0) : Mend0 s t (si (si s 54 w) 55 x) (si (si (si t 53 0) 54 w) 55 x) :=
  ⟨fun j h => by rw [si_ne (by omega), si_ne (by omega)], fun j h => by rw [si_ne (by omega), si_ne (by omega), si_ne (by omega)], Or.inr ⟨w, x, hw, by rw [si_ne (by decide), si_at], by rw [si_ne (by decide), si_at], si_at _ _ _ _, si_at _ _ _ _, by rw [si_ne (by decide), si_ne (by decide), si_at]⟩⟩
theorem mend_con {s t : St} {m ni nc r : Nat} {x : Int32} (hb : BB s t m ni nc) (h50 : s 50 0 = nI (cntE (t 7) 1 m)) (hn : nc < 16) (hr : r < m) (h5 : s 8 r = 5) : Mend1 s t (addK_c s nc x r) (si (sa (sa t 10 nc x) 11 nc (nI r)) 49 (nI (nc + 1))) m ni nc := by
  have t7 : (si (sa (sa t 10 nc x) 11 nc (nI r)) 49 (nI (nc + 1))) 7 = t 7 := by rw [si_ne (by decide), sa_ne (by decide), sa_ne (by decide)]
  refine ⟨ni, nc + 1, BB_addC hb hn hr h5, ?_, ?_, fun j h => ?_, fun j h => ?_⟩
  · rw [t7, ← h50]
    unfold addK_c
    rw [si_ne (by decide), sa_ne (by decide), sa_ne (by decide), sa_ne (by decide), sa_ne (by decide)]
  · rw [t7]; omega
  · unfold addK_c
    rw [si_ne (by omega), sa_ne (by omega), sa_ne (by omega), sa_ne (by omega), sa_ne (by omega)]
  · rw [si_ne (by omega), sa_ne (by omega), sa_ne (by omega)]
theorem mend_isl {s t : St} {m ni nc r l : Nat} (hb : BB s t m ni nc) (h50 : s 50 0 = nI (cntE (t 7) 1 m)) (hn : ni < 12) (hr : r < m) (h5 : s 8 r = 5) (h8 : l < 8) : Mend1 s t (addK_i s ni (nI l) r) (si (sa (sa t 8 ni (nI l)) 9 ni (nI r)) 48 (nI (ni + 1))) m ni nc := by
  have t7 : (si (sa (sa t 8 ni (nI l)) 9 ni (nI r)) 48 (nI (ni + 1))) 7 = t 7 := by rw [si_ne (by decide), sa_ne (by decide), sa_ne (by decide)]
  refine ⟨ni + 1, nc, BB_addI hb hn hr h5 h8, ?_, ?_, fun j h => ?_, fun j h => ?_⟩
  · rw [t7, ← h50]
    unfold addK_i
    rw [si_ne (by decide), sa_ne (by decide), sa_ne (by decide), sa_ne (by decide), sa_ne (by decide)]
  · rw [t7]; omega
  · unfold addK_i
    rw [si_ne (by omega), sa_ne (by omega), sa_ne (by omega), sa_ne (by omega), sa_ne (by omega)]
  · rw [si_ne (by omega), sa_ne (by omega), sa_ne (by omega)]
theorem cntE_set {f : Nat → Int32} {v : Int32} {j : Nat} (hv : ¬ f j = v) : ∀ {m : Nat}, j < m → cntE (upd f j v) v m = cntE f v m + 1
  | 0, h => absurd h (Nat.not_lt_zero _)
  | m + 1, h => by
    show cntE (upd f j v) v m + (if upd f j v m = v then 1 else 0) = cntE f v m + (if f m = v then 1 else 0) + 1
    by_cases q : j = m
    · subst q
      rw [cntE_upd (Nat.le_refl _), pk_us, if_pos rfl, if_neg hv]
    · rw [cntE_set hv (show j < m by omega), pk_un (fun e => q e.symm)]; omega
theorem mend_long {s t : St} {m ni nc i : Nat} (hb : BB s t m ni nc) (h50 : s 50 0 = nI (cntE (t 7) 1 m)) (hi : i < m) (h7 : t 7 i = 0) : Mend1 s t (si (sa s 24 i 1) 50 (s 50 0 + 1)) (sa t 7 i 1) m ni nc := by
  have e7 : (sa t 7 i 1) 7 = upd (t 7) i 1 := sa_at _ _ _ _
  have hc : cntE (upd (t 7) i 1) 1 m = cntE (t 7) 1 m + 1 := cntE_set (by rw [h7]; decide) hi
  refine ⟨ni, nc, BB_long hb hi (fun j h1 h2 => by rw [si_ne h2, sa_ne h1]) (by rw [si_ne (by decide), sa_at]) (fun j h => sa_ne h) e7, ?_, ?_, fun j h => ?_, fun j h => ?_⟩
  · rw [si_at, e7, hc, h50, nI_1]
  · rw [e7, hc]; omega
  · rw [si_ne (by omega), sa_ne (by omega)]
  · rw [sa_ne (by omega)]
theorem len_in {s : St} {i : Nat} (h : i < 24) : fX2_lengthens s (nI i) = some (1, si (sa s 24 i 1) 50 (s 50 0 + 1)) := by
  unfold fX2_lengthens
  rw [if_neg (nI_pos (by omega)), if_pos (show nI i < (24 : Int32) from nI_lt (a := i) (b := 24) h (by omega)), ck_t (ckN h (by omega)), nI_clamp (by omega)]
theorem mend_both {s t : St} {m ni nc : Nat} (hl : LL s t m ni nc) (hx : LX s t m nc) (ha : ∀ j, j < m → s 28 j = aimM t ni nc j) (hia : ∀ k, k < ni → s 29 k = iaimM t ni k) (h50 : s 50 0 = nI (cntE (t 7) 1 m)) :
    (∃ u v, fX2_mendsOne s = some (1, u) ∧ fX6_mends t = some (1, v) ∧ Mend1 s t u v m ni nc) ∨ (∃ u v, fX2_mendsOne s = some (0, u) ∧ fX6_mends t = some (0, v) ∧ Mend0 s t u v) := by
  have hb := hl.1
  obtain ⟨⟨hp, hq, hit, hre, hsi, hsc, h48, h49, hki, hkc, hg, hlb, hlB⟩, l25, b25, li, bi, lc, bc, le, l53, l52, lz⟩ := id hl
  have hm := hp.1
  have hni := hsi.1
  have f1 := first_eq hl ha 2 0
  have f2 := first_eq hl ha 1 0
  have f3 := first_eq hl ha 2 1
  have f4 := ifirst_eq hl hia
  rcases fstS_val (P := strM t ni nc 2 0) (d := m) (i := 0) with e1 | ⟨i, _, hi, e1, P1⟩
  · rcases fstS_val (P := strM t ni nc 1 0) (d := m) (i := 0) with e2 | ⟨i, _, hi, e2, P2⟩
    · rcases fstS_val (P := strM t ni nc 2 1) (d := m) (i := 0) with e3 | ⟨i, _, hi, e3, P3⟩
      · rcases fstS_val (P := istM t ni) (d := ni) (i := 0) with e4 | ⟨k, _, hk, e4, P4⟩
        · refine Or.inr ⟨s, t, ?_, ?_, fun _ _ => rfl, fun _ _ => rfl, Or.inl ⟨rfl, rfl⟩⟩
          · unfold fX2_mendsOne
            rw [f1.1, bd1_s, e1, if_pos rfl, f2.1, bd1_s, e2, if_pos rfl, f3.1, bd1_s, e3, if_pos rfl, f4.1, bd1_s, e4, if_pos rfl]
          · unfold fX6_mends
            rw [f1.2, bd1_s, e1, if_pos rfl, f2.2, bd1_s, e2, if_pos rfl, f3.2, bd1_s, e3, if_pos rfl, f4.2, bd1_s, e4, if_pos rfl]
        · have hk' : k < ni := by omega
          obtain ⟨k1, _, ⟨l, h8, el⟩, _⟩ := hki k hk'
          have em : t 8 k = nI l := by rw [← k1]; exact el
          have ea : t 13 k = ad_i s k := (li k hk').symm
          have c1 := ckN (i := k) (N := 12) (by omega) (by omega)
          rcases isl_both (frm := ad_i s k) (w := 3) (who := nI k) hl h8 with ⟨g1, g2⟩ | ⟨hn, r, hr, h5, g1, g2⟩
          · refine Or.inr ⟨_, _, ?_, ?_, fail_0 (w := 3) (x := nI k) (by decide)⟩
            · unfold fX2_mendsOne
              rw [f1.1, bd1_s, e1, if_pos rfl, f2.1, bd1_s, e2, if_pos rfl, f3.1, bd1_s, e3, if_pos rfl, f4.1, bd1_s, e4, if_neg (nI_m1 (by omega)), saddr_i hsi hk', bd1_s, sname_i hsi hk', bd1_s, el, g1, bd2_s, if_pos rfl, show fX2_fails s 3 (nI k) = some (0, si (si s 54 3) 55 (nI k)) from rfl, bd2_s, if_pos rfl]
            · unfold fX6_mends
              rw [f1.2, bd1_s, e1, if_pos rfl, f2.2, bd1_s, e2, if_pos rfl, f3.2, bd1_s, e3, if_pos rfl, f4.2, bd1_s, e4, if_neg (nI_m1 (by omega)), ck_t c1, ck_t c1, nI_clamp (by omega), ea, em, g2, bd2_s, if_pos rfl]
          · refine Or.inl ⟨_, _, ?_, ?_, mend_isl hb h50 hn hr h5 h8⟩
            · unfold fX2_mendsOne
              rw [f1.1, bd1_s, e1, if_pos rfl, f2.1, bd1_s, e2, if_pos rfl, f3.1, bd1_s, e3, if_pos rfl, f4.1, bd1_s, e4, if_neg (nI_m1 (by omega)), saddr_i hsi hk', bd1_s, sname_i hsi hk', bd1_s, el, g1, bd2_s, if_neg d_1_0]
            · unfold fX6_mends
              rw [f1.2, bd1_s, e1, if_pos rfl, f2.2, bd1_s, e2, if_pos rfl, f3.2, bd1_s, e3, if_pos rfl, f4.2, bd1_s, e4, if_neg (nI_m1 (by omega)), ck_t c1, ck_t c1, nI_clamp (by omega), ea, em, g2, bd2_s, if_neg d_1_0]
      · have hi' : i < m := by omega
        have k2 := (of_decide_eq_true (show decide (t 2 i = 2 ∧ t 7 i = 1 ∧ aimM t ni nc i = -1) = true from P3)).1
        obtain ⟨l, h8, em⟩ := wf_lab (hq.2.2 i hi') k2
        have el : s 9 i = nI l := by rw [(hit i hi').2.1]; exact em
        have ea : t 12 i = s 25 i := (l25 i hi').symm
        have c1 := ckN (i := i) (N := 24) (by omega) (by omega)
        rcases isl_both (frm := s 25 i) (w := 2) (who := nI i) hl h8 with ⟨g1, g2⟩ | ⟨hn, r, hr, h5, g1, g2⟩
        · refine Or.inr ⟨_, _, ?_, ?_, fail_0 (w := 2) (x := nI i) (by decide)⟩
          · unfold fX2_mendsOne
            rw [f1.1, bd1_s, e1, if_pos rfl, f2.1, bd1_s, e2, if_pos rfl, f3.1, bd1_s, e3, if_neg (nI_m1 (by omega)), addressOf_in (by omega), bd1_s, told_in_p hp.2.1 hm hi', bd1_s, el, g1, bd2_s, if_pos rfl, show fX2_fails s 2 (nI i) = some (0, si (si s 54 2) 55 (nI i)) from rfl, bd2_s, if_pos rfl]
          · unfold fX6_mends
            rw [f1.2, bd1_s, e1, if_pos rfl, f2.2, bd1_s, e2, if_pos rfl, f3.2, bd1_s, e3, if_neg (nI_m1 (by omega)), ck_t c1, ck_t c1, nI_clamp (by omega), ea, em, g2, bd2_s, ck_t (Or.inl rfl)]
        · refine Or.inl ⟨_, _, ?_, ?_, mend_isl hb h50 hn hr h5 h8⟩
          · unfold fX2_mendsOne
            rw [f1.1, bd1_s, e1, if_pos rfl, f2.1, bd1_s, e2, if_pos rfl, f3.1, bd1_s, e3, if_neg (nI_m1 (by omega)), addressOf_in (by omega), bd1_s, told_in_p hp.2.1 hm hi', bd1_s, el, g1, bd2_s, if_neg d_1_0]
          · unfold fX6_mends
            rw [f1.2, bd1_s, e1, if_pos rfl, f2.2, bd1_s, e2, if_pos rfl, f3.2, bd1_s, e3, if_neg (nI_m1 (by omega)), ck_t c1, ck_t c1, nI_clamp (by omega), ea, em, g2, bd2_s, ck_t (Or.inr rfl)]
    · have hi' : i < m := by omega
      rcases con_both hl hx hi' with ⟨g1, g2⟩ | ⟨hn, r, hr, h5, g1, g2⟩
      · refine Or.inr ⟨_, _, ?_, ?_, fail_0 (w := 1) (x := nI i) (by decide)⟩
        · unfold fX2_mendsOne
          rw [f1.1, bd1_s, e1, if_pos rfl, f2.1, bd1_s, e2, if_neg (nI_m1 (by omega)), g1, bd2_s, if_pos rfl, show fX2_fails s 1 (nI i) = some (0, si (si s 54 1) 55 (nI i)) from rfl, bd2_s, if_pos rfl]
        · unfold fX6_mends
          rw [f1.2, bd1_s, e1, if_pos rfl, f2.2, bd1_s, e2, if_neg (nI_m1 (by omega)), g2, bd2_s, ck_t (Or.inl rfl)]
      · refine Or.inl ⟨_, _, ?_, ?_, mend_con (x := t 3 i) hb h50 hn hr h5⟩
        · unfold fX2_mendsOne
          rw [f1.1, bd1_s, e1, if_pos rfl, f2.1, bd1_s, e2, if_neg (nI_m1 (by omega)), g1, bd2_s, if_neg d_1_0]
        · unfold fX6_mends
          rw [f1.2, bd1_s, e1, if_pos rfl, f2.2, bd1_s, e2, if_neg (nI_m1 (by omega)), g2, bd2_s, ck_t (Or.inr rfl)]
  · have hi' : i < m := by omega
    have k7 := (of_decide_eq_true (show decide (t 2 i = 2 ∧ t 7 i = 0 ∧ aimM t ni nc i = -1) = true from P1)).2.1
    refine Or.inl ⟨_, _, ?_, ?_, mend_long hb h50 hi' k7⟩
    · unfold fX2_mendsOne
      rw [f1.1, bd1_s, e1, if_neg (nI_m1 (by omega)), len_in (by omega), bd2_s, ck_t (Or.inr rfl)]
    · unfold fX6_mends
      rw [f1.2, bd1_s, e1, if_neg (nI_m1 (by omega)), ck_t (ckN (by omega) (by omega)), nI_clamp (by omega)]
