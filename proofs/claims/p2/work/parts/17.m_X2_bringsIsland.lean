def fX2_bringsIsland_b75 (k19 : St → Int32 → Int32 → Int32 → Int32 → Int32 → Int32 → Option (Int32 × St)) (σ : St) (y1 : Int32) (y2 : Int32) (y3 : Int32) (y4 : Int32) (y5 : Int32) (y6 : Int32) (y7 : Int32) (t0 : Int32) : Option (Int32 × St) :=
  (if t0 = 0 then (k19 σ y1 y2 y3 y4 y5 (y6 + (1 : Int32))) else ((bd1 (fX5_far σ y7 y3) fun r24 => (if y5 ≤ r24 then (k19 σ y1 y2 y3 y4 y5 (y6 + (1 : Int32))) else ((bd1 (fX5_far σ y7 y3) fun r28 => k19 σ y1 y2 y3 y6 r28 (y6 + (1 : Int32))))))))
def fX2_bringsIsland_b74 (k19 : St → Int32 → Int32 → Int32 → Int32 → Int32 → Int32 → Option (Int32 × St)) (σ : St) (y1 : Int32) (y2 : Int32) (y3 : Int32) (y4 : Int32) (y5 : Int32) (y6 : Int32) (y7 : Int32) : Option (Int32 × St) :=
  fX2_bringsIsland_b75 k19 σ y1 y2 y3 y4 y5 y6 y7 (0 : Int32)
def fX2_bringsIsland_s19 (k19 : St → Int32 → Int32 → Int32 → Int32 → Int32 → Int32 → Option (Int32 × St)) (σ : St) (y1 : Int32) (y2 : Int32) (y3 : Int32) (y4 : Int32) (y5 : Int32) (y6 : Int32) : Option (Int32 × St) :=
  (bd1 (fX0_size_p σ ) fun r7 => (if r7 ≤ y6 then ((if y4 = (-1 : Int32) then (some ((0 : Int32), σ)) else ((bd2 (fX4_add_i σ y2 y4) fun r12 s13 => (if r12 = 0 then (some ((0 : Int32), s13)) else (some ((1 : Int32), s13))))))) else ((bd1 (fX4_endOf_i σ y6) fun r16 => (bd1 (fX0_kindOf_p σ y6) fun r19 => (if r19 = (5 : Int32) then ((bd1 (fX5_far σ r16 y1) fun r31 => (if ((σ 10) (Int32.toNatClampNeg (1 : Int32))) < r31 then (fX2_bringsIsland_b74 k19 σ y1 y2 y3 y4 y5 y6 r16) else (fX2_bringsIsland_b75 k19 σ y1 y2 y3 y4 y5 y6 r16 (1 : Int32))))) else (fX2_bringsIsland_b74 k19 σ y1 y2 y3 y4 y5 y6 r16)))))))
def fX2_bringsIsland_l19  : Nat → St → Int32 → Int32 → Int32 → Int32 → Int32 → Int32 → Option (Int32 × St) :=
  itr (fX2_bringsIsland_s19 ) (fun _ _ _ _ _ _ _ => none)
def fX2_bringsIsland (σ : St) (x1 : Int32) (x2 : Int32) : Option (Int32 × St) :=
  (bd1 (fX2_labelAddress σ x2) fun r1 => (bd1 (fX5_far σ x1 r1) fun r4 => fX2_bringsIsland_l19  FU σ x1 x2 r1 (-1 : Int32) r4 (0 : Int32)))
abbrev rmX2_bringsIsland : Room := { frames := 2, cells := 0, slots := 0, locals := 42 }
set_option maxHeartbeats 4000000 in
set_option maxRecDepth 100000 in
theorem KX2_bringsIsland {l : Launch} {dC : Nat → ClassId} {dI : Nat → Nat → Nat} {cI cZ : ClassId} {a : Nat → Nat} {σ : St} {x1 : Int32} {x2 : Int32} {r : Int32} {σ2 : St} (hok : okA 30 a) (h : fX2_bringsIsland σ x1 x2 = some (r, σ2)) (sz : Nat) : Met l yX2_bringsIsland wsX2_bringsIsland rmX2_bringsIsland (Pz (dC, dI) cI cZ (wdC cI cZ a σ) sz [.ref (a 11), .int x1, .int x2]) (Qzi (dC, dI) 30 a (wdC cI cZ a σ2) sz r) 0 0 (aN 30 a sz) := by
  refine Met.ofW (cc := cX2_bringsIsland) (maxL := 9) (ret := (some .boolean)) (by decide) rfl ?_
  intro p e s m args below meth c s₁ B hml hv
  obtain ⟨hav, hsz, hP, hKK⟩ := hv
  have hx := B.exec
  have hb := B.bytes
  have hr := B.returns
  have hts := atoms_spec (ws := wsX2_bringsIsland) B.pre
  have hown : s.vm.findClass RX2 = some m.cls := findClass_of_methodNamed B.named
  have hlocks := B.notSynchronized
  have CF : CallFix p m c cX2_bringsIsland 9 s args wsX2_bringsIsland RX2 := ⟨hx, hb, hml, hown, hts⟩
  have hz : zz (dC, dI) 30 a (wdC cI cZ a σ) s.heap s.heap [] := ⟨hP, va_S.rf⟩
  have hl := lv_entry [.ref (a 11), .int x1, .int x2] (n := 9) (Nat.le_of_ble_eq_true rfl)
  have hen : entryFrame m args 9 = entryFrame m ([.ref (a 11), .int x1, .int x2] : List Value).toArray 9 := by rw [hav]
  rw [hen, lg_entry_eq]
  generalize (lg_sl [.ref (a 11), .int x1, .int x2] ++ List.replicate (9 - (lg_sl [.ref (a 11), .int x1, .int x2]).length) Slot.unset).toArray = ls at hl ⊢
  have hl : lv_has ls 9 [(0, .ref (a 11)), (1, .int x1), (2, .int x2)] := hl
  have eR : (headSpec wsX2_bringsIsland rmX2_bringsIsland).room = rmX2_bringsIsland := rfl
  rw [eR]
  have rt : ∀ (v : Int32) (t : St) (pc : Nat) (H : Heap) (locs : List Loc) (ls : Array Slot), decode cX2_bringsIsland pc = .ok (.ireturn, 1) → some (v, t) = some (r, σ2) → zz (dC, dI) 30 a (wdC cI cZ a t) s.heap H locs → (v = 0 ∨ v = 1) → W p l e rmX2_bringsIsland s m args below meth c H locs 0 0 (MQ below (Qzi (dC, dI) 30 a (wdC cI cZ a σ2) sz r) args s 0 0 (aN 30 a sz)) (F0 m pc ls [.int v]) := by
    intro v t pc H locs ls hd h hz hv
    cases h
    exact zzret hsz hx hb hr hlocks hv hz hd
  generalize (MQ below (Qzi (dC, dI) 30 a (wdC cI cZ a σ2) sz r) args s 0 0 (aN 30 a sz)) = Q at rt ⊢
  have b75 : ∀ (k19 : St → Int32 → Int32 → Int32 → Int32 → Int32 → Int32 → Option (Int32 × St)) (hk19 : (∀ (σ : St) (y1 : Int32) (y2 : Int32) (y3 : Int32) (y4 : Int32) (y5 : Int32) (y6 : Int32) (H : Heap) (locs : List Loc) (ls : Array Slot), k19 σ y1 y2 y3 y4 y5 y6 = some (r, σ2) → zz (dC, dI) 30 a (wdC cI cZ a σ) s.heap H locs → lv_has ls 9 [(0, .ref (a 11)), (1, .int y1), (2, .int y2), (3, .int y3), (4, .int y4), (5, .int y5), (6, .int y6)] → W p l e rmX2_bringsIsland s m args below meth c H locs 0 0 Q (F0 m 19 ls []))) (σ : St) (y1 : Int32) (y2 : Int32) (y3 : Int32) (y4 : Int32) (y5 : Int32) (y6 : Int32) (y7 : Int32) (t0 : Int32) (H : Heap) (locs : List Loc) (ls : Array Slot), fX2_bringsIsland_b75 k19 σ y1 y2 y3 y4 y5 y6 y7 t0 = some (r, σ2) → zz (dC, dI) 30 a (wdC cI cZ a σ) s.heap H locs → lv_has ls 9 [(0, .ref (a 11)), (1, .int y1), (2, .int y2), (3, .int y3), (4, .int y4), (5, .int y5), (6, .int y6), (7, .int y7)] → W p l e rmX2_bringsIsland s m args below meth c H locs 0 0 Q (F0 m 75 ls [.int t0]) := by
    intro k19 hk19 σ y1 y2 y3 y4 y5 y6 y7 t0 H locs ls h hz hl
    unfold fX2_bringsIsland_b75 at h
    refine lv_istore (lv' := [(8, .int t0), (0, .ref (a 11)), (1, .int y1), (2, .int y2), (3, .int y3), (4, .int y4), (5, .int y5), (6, .int y6), (7, .int y7)]) hx hb dX2_bringsIsland_75 hl (by decide) rfl (fun ls hl => ?_)
    refine lv_iload hx hb dX2_bringsIsland_77 (lv_at hl 0 rfl) ?_
    refine lv_if_eq (tgt := 105) hx hb dX2_bringsIsland_79 (by decide) (fun c23 => ?_) (fun c23 => ?_)
    · replace h := ite_t c23 h
      refine lv_iinc (v := (y6 + (1 : Int32))) (lv' := [(6, .int (y6 + (1 : Int32))), (8, .int t0), (0, .ref (a 11)), (1, .int y1), (2, .int y2), (3, .int y3), (4, .int y4), (5, .int y5), (7, .int y7)]) hx hb dX2_bringsIsland_105 hl (k := 7) rfl rfl (by decide) rfl (fun ls hl => ?_)
      refine lv_goto (tgt := 19) hx hb dX2_bringsIsland_108 (by decide) ?_
      exact hk19 σ y1 y2 y3 y4 y5 (y6 + (1 : Int32)) _ _ _ h hz (lv_sub hl [2, 3, 4, 5, 6, 7, 0] rfl)
    · replace h := ite_f c23 h
      refine lv_iload hx hb dX2_bringsIsland_82 (lv_at hl 8 rfl) ?_
      refine lv_iload_n hx hb dX2_bringsIsland_84 rfl (lv_at hl 4 rfl) ?_
      obtain ⟨r24, e26, h⟩ := bd1_e h
      refine zcallSNi (As := [.int y7, .int y3]) (rest := []) CF hKK (KX5_far (dC := dC) (dI := dI) (cI := cI) (cZ := cZ) (a := a) hok e26) ⟨va_cnB 2 hts gX2_bringsIsland_X5_far_n142 rfl rfl rfl hKK.2.2.2.2.2.2.2.2.2.2.2.2.2.2.2 (hts _ (List.mem_of_getElem? (i := 11) rfl)) cdX5_far.2 ⟨Nat.le_of_ble_eq_true rfl, Nat.le_of_ble_eq_true rfl⟩, hts _ (List.mem_of_getElem? (i := 10) rfl), trivial⟩ hz rfl hl.1 rfl (Nat.le_of_ble_eq_true rfl) dX2_bringsIsland_85 ⟨Nat.le_refl _, Nat.le_refl _⟩ (fun H locs hz => ?_)
      refine lv_iload hx hb dX2_bringsIsland_88 (lv_at hl 6 rfl) ?_
      refine lv_icmp_ge (tgt := 105) hx hb dX2_bringsIsland_90 (by decide) (fun c27 => ?_) (fun c27 => ?_)
      · replace h := ite_t c27 h
        refine lv_iinc (v := (y6 + (1 : Int32))) (lv' := [(6, .int (y6 + (1 : Int32))), (8, .int t0), (0, .ref (a 11)), (1, .int y1), (2, .int y2), (3, .int y3), (4, .int y4), (5, .int y5), (7, .int y7)]) hx hb dX2_bringsIsland_105 hl (k := 7) rfl rfl (by decide) rfl (fun ls hl => ?_)
        refine lv_goto (tgt := 19) hx hb dX2_bringsIsland_108 (by decide) ?_
        exact hk19 σ y1 y2 y3 y4 y5 (y6 + (1 : Int32)) _ _ _ h hz (lv_sub hl [2, 3, 4, 5, 6, 7, 0] rfl)
      · replace h := ite_f c27 h
        refine lv_iload hx hb dX2_bringsIsland_93 (lv_at hl 7 rfl) ?_
        refine lv_istore (lv' := [(4, .int y6), (8, .int t0), (0, .ref (a 11)), (1, .int y1), (2, .int y2), (3, .int y3), (5, .int y5), (6, .int y6), (7, .int y7)]) hx hb dX2_bringsIsland_95 hl (by decide) rfl (fun ls hl => ?_)
        refine lv_iload hx hb dX2_bringsIsland_97 (lv_at hl 8 rfl) ?_
        refine lv_iload_n hx hb dX2_bringsIsland_99 rfl (lv_at hl 5 rfl) ?_
        obtain ⟨r28, e30, h⟩ := bd1_e h
        refine zcallSNi (As := [.int y7, .int y3]) (rest := []) CF hKK (KX5_far (dC := dC) (dI := dI) (cI := cI) (cZ := cZ) (a := a) hok e30) ⟨va_cnB 2 hts gX2_bringsIsland_X5_far_n142 rfl rfl rfl hKK.2.2.2.2.2.2.2.2.2.2.2.2.2.2.2 (hts _ (List.mem_of_getElem? (i := 11) rfl)) cdX5_far.2 ⟨Nat.le_of_ble_eq_true rfl, Nat.le_of_ble_eq_true rfl⟩, hts _ (List.mem_of_getElem? (i := 10) rfl), trivial⟩ hz rfl hl.1 rfl (Nat.le_of_ble_eq_true rfl) dX2_bringsIsland_100 ⟨Nat.le_refl _, Nat.le_refl _⟩ (fun H locs hz => ?_)
        refine lv_istore (lv' := [(5, .int r28), (4, .int y6), (8, .int t0), (0, .ref (a 11)), (1, .int y1), (2, .int y2), (3, .int y3), (6, .int y6), (7, .int y7)]) hx hb dX2_bringsIsland_103 hl (by decide) rfl (fun ls hl => ?_)
        refine lv_iinc (v := (y6 + (1 : Int32))) (lv' := [(6, .int (y6 + (1 : Int32))), (5, .int r28), (4, .int y6), (8, .int t0), (0, .ref (a 11)), (1, .int y1), (2, .int y2), (3, .int y3), (7, .int y7)]) hx hb dX2_bringsIsland_105 hl (k := 7) rfl rfl (by decide) rfl (fun ls hl => ?_)
        refine lv_goto (tgt := 19) hx hb dX2_bringsIsland_108 (by decide) ?_
        exact hk19 σ y1 y2 y3 y6 r28 (y6 + (1 : Int32)) _ _ _ h hz (lv_sub hl [4, 5, 6, 7, 2, 1, 0] rfl)
  have b74 : ∀ (k19 : St → Int32 → Int32 → Int32 → Int32 → Int32 → Int32 → Option (Int32 × St)) (hk19 : (∀ (σ : St) (y1 : Int32) (y2 : Int32) (y3 : Int32) (y4 : Int32) (y5 : Int32) (y6 : Int32) (H : Heap) (locs : List Loc) (ls : Array Slot), k19 σ y1 y2 y3 y4 y5 y6 = some (r, σ2) → zz (dC, dI) 30 a (wdC cI cZ a σ) s.heap H locs → lv_has ls 9 [(0, .ref (a 11)), (1, .int y1), (2, .int y2), (3, .int y3), (4, .int y4), (5, .int y5), (6, .int y6)] → W p l e rmX2_bringsIsland s m args below meth c H locs 0 0 Q (F0 m 19 ls []))) (σ : St) (y1 : Int32) (y2 : Int32) (y3 : Int32) (y4 : Int32) (y5 : Int32) (y6 : Int32) (y7 : Int32) (H : Heap) (locs : List Loc) (ls : Array Slot), fX2_bringsIsland_b74 k19 σ y1 y2 y3 y4 y5 y6 y7 = some (r, σ2) → zz (dC, dI) 30 a (wdC cI cZ a σ) s.heap H locs → lv_has ls 9 [(0, .ref (a 11)), (1, .int y1), (2, .int y2), (3, .int y3), (4, .int y4), (5, .int y5), (6, .int y6), (7, .int y7)] → W p l e rmX2_bringsIsland s m args below meth c H locs 0 0 Q (F0 m 74 ls []) := by
    intro k19 hk19 σ y1 y2 y3 y4 y5 y6 y7 H locs ls h hz hl
    unfold fX2_bringsIsland_b74 at h
    refine lv_iconst (v := (0 : Int32)) hx hb dX2_bringsIsland_74 (by decide) ?_
    exact b75 k19 hk19 σ y1 y2 y3 y4 y5 y6 y7 (0 : Int32) _ _ _ h hz (lv_sub hl [0, 1, 2, 3, 4, 5, 6, 7] rfl)
  have s19 : ∀ (k19 : St → Int32 → Int32 → Int32 → Int32 → Int32 → Int32 → Option (Int32 × St)) (hk19 : (∀ (σ : St) (y1 : Int32) (y2 : Int32) (y3 : Int32) (y4 : Int32) (y5 : Int32) (y6 : Int32) (H : Heap) (locs : List Loc) (ls : Array Slot), k19 σ y1 y2 y3 y4 y5 y6 = some (r, σ2) → zz (dC, dI) 30 a (wdC cI cZ a σ) s.heap H locs → lv_has ls 9 [(0, .ref (a 11)), (1, .int y1), (2, .int y2), (3, .int y3), (4, .int y4), (5, .int y5), (6, .int y6)] → W p l e rmX2_bringsIsland s m args below meth c H locs 0 0 Q (F0 m 19 ls []))) (σ : St) (y1 : Int32) (y2 : Int32) (y3 : Int32) (y4 : Int32) (y5 : Int32) (y6 : Int32) (H : Heap) (locs : List Loc) (ls : Array Slot), fX2_bringsIsland_s19 k19 σ y1 y2 y3 y4 y5 y6 = some (r, σ2) → zz (dC, dI) 30 a (wdC cI cZ a σ) s.heap H locs → lv_has ls 9 [(0, .ref (a 11)), (1, .int y1), (2, .int y2), (3, .int y3), (4, .int y4), (5, .int y5), (6, .int y6)] → W p l e rmX2_bringsIsland s m args below meth c H locs 0 0 Q (F0 m 19 ls []) := by
    intro k19 hk19 σ y1 y2 y3 y4 y5 y6 H locs ls h hz hl
    unfold fX2_bringsIsland_s19 at h
    refine lv_iload hx hb dX2_bringsIsland_19 (lv_at hl 6 rfl) ?_
    refine lv_aload_n hx hb dX2_bringsIsland_21 rfl (lv_at hl 0 rfl) ?_
    refine va_get (v := .ref (a 7)) hx hb hts inX2_bringsIsland_X2 hown hKK.1 hz.1 11 rfl rfl 0 (by decide) (hts _ (List.mem_of_getElem? (i := 1) rfl)) (fun _ h9 => h9) rfl dX2_bringsIsland_22 ?_
    obtain ⟨r7, e9, h⟩ := bd1_e h
    refine zcallVi (As := []) (rest := [.int y6]) CF hKK (KX0_size_p (dC := dC) (dI := dI) (cI := cI) (cZ := cZ) (a := a) hok e9) (cwV 0 hts gX2_bringsIsland_X0_size rfl rfl rfl cdX0_size ⟨Nat.le_of_ble_eq_true rfl, Nat.le_of_ble_eq_true rfl⟩) 7 0 rfl rfl hz rfl hl.1 rfl (Nat.le_of_ble_eq_true rfl) dX2_bringsIsland_25 ⟨Nat.le_refl _, Nat.le_refl _⟩ (fun H locs hz => ?_)
    refine lv_icmp_ge (tgt := 111) hx hb dX2_bringsIsland_28 (by decide) (fun c10 => ?_) (fun c10 => ?_)
    · replace h := ite_t c10 h
      refine lv_iload hx hb dX2_bringsIsland_111 (lv_at hl 4 rfl) ?_
      refine lv_iconst (v := (-1 : Int32)) hx hb dX2_bringsIsland_113 (by decide) ?_
      refine lv_icmp_eq (tgt := 134) hx hb dX2_bringsIsland_114 (by decide) (fun c11 => ?_) (fun c11 => ?_)
      · replace h := ite_t c11 h
        refine lv_iconst (v := (0 : Int32)) hx hb dX2_bringsIsland_134 (by decide) ?_
        exact rt (0 : Int32) σ 135 _ _ _ dX2_bringsIsland_135 h hz (Or.inl rfl)
      · replace h := ite_f c11 h
        refine lv_aload_n hx hb dX2_bringsIsland_117 rfl (lv_at hl 0 rfl) ?_
        refine va_get (v := .ref (a 12)) hx hb hts inX2_bringsIsland_X2 hown hKK.1 hz.1 11 rfl rfl 2 (by decide) (hts _ (List.mem_of_getElem? (i := 2) rfl)) (fun _ h9 => h9) rfl dX2_bringsIsland_118 ?_
        refine lv_iload_n hx hb dX2_bringsIsland_121 rfl (lv_at hl 2 rfl) ?_
        refine lv_iload hx hb dX2_bringsIsland_122 (lv_at hl 4 rfl) ?_
        obtain ⟨r12, s13, e14, h⟩ := bd2_e h
        refine zcallVi (As := [.int y2, .int y4]) (rest := []) CF hKK (KX4_add_i (dC := dC) (dI := dI) (cI := cI) (cZ := cZ) (a := a) hok e14) (cwV 2 hts gX2_bringsIsland_X4_add rfl rfl rfl cdX4_add ⟨Nat.le_of_ble_eq_true rfl, Nat.le_of_ble_eq_true rfl⟩) 12 4 rfl rfl hz rfl hl.1 rfl (Nat.le_of_ble_eq_true rfl) dX2_bringsIsland_124 ⟨Nat.le_refl _, Nat.le_refl _⟩ (fun H locs hz => ?_)
        refine lv_if_eq (tgt := 134) hx hb dX2_bringsIsland_127 (by decide) (fun c15 => ?_) (fun c15 => ?_)
        · replace h := ite_t c15 h
          refine lv_iconst (v := (0 : Int32)) hx hb dX2_bringsIsland_134 (by decide) ?_
          exact rt (0 : Int32) s13 135 _ _ _ dX2_bringsIsland_135 h hz (Or.inl rfl)
        · replace h := ite_f c15 h
          refine lv_iconst (v := (1 : Int32)) hx hb dX2_bringsIsland_130 (by decide) ?_
          refine lv_goto (tgt := 135) hx hb dX2_bringsIsland_131 (by decide) ?_
          exact rt (1 : Int32) s13 135 _ _ _ dX2_bringsIsland_135 h hz (Or.inr rfl)
    · replace h := ite_f c10 h
      refine lv_aload_n hx hb dX2_bringsIsland_31 rfl (lv_at hl 0 rfl) ?_
      refine va_get (v := .ref (a 12)) hx hb hts inX2_bringsIsland_X2 hown hKK.1 hz.1 11 rfl rfl 2 (by decide) (hts _ (List.mem_of_getElem? (i := 2) rfl)) (fun _ h9 => h9) rfl dX2_bringsIsland_32 ?_
      refine lv_iload hx hb dX2_bringsIsland_35 (lv_at hl 6 rfl) ?_
      obtain ⟨r16, e18, h⟩ := bd1_e h
      refine zcallVi (As := [.int y6]) (rest := []) CF hKK (KX4_endOf_i (dC := dC) (dI := dI) (cI := cI) (cZ := cZ) (a := a) hok e18) (cwV 1 hts gX2_bringsIsland_X4_endOf rfl rfl rfl cdX4_endOf ⟨Nat.le_of_ble_eq_true rfl, Nat.le_of_ble_eq_true rfl⟩) 12 4 rfl rfl hz rfl hl.1 rfl (Nat.le_of_ble_eq_true rfl) dX2_bringsIsland_37 ⟨Nat.le_refl _, Nat.le_refl _⟩ (fun H locs hz => ?_)
      refine lv_istore (lv' := [(7, .int r16), (0, .ref (a 11)), (1, .int y1), (2, .int y2), (3, .int y3), (4, .int y4), (5, .int y5), (6, .int y6)]) hx hb dX2_bringsIsland_40 hl (by decide) rfl (fun ls hl => ?_)
      refine lv_aload_n hx hb dX2_bringsIsland_42 rfl (lv_at hl 1 rfl) ?_
      refine va_get (v := .ref (a 7)) hx hb hts inX2_bringsIsland_X2 hown hKK.1 hz.1 11 rfl rfl 0 (by decide) (hts _ (List.mem_of_getElem? (i := 1) rfl)) (fun _ h9 => h9) rfl dX2_bringsIsland_43 ?_
      refine lv_iload hx hb dX2_bringsIsland_46 (lv_at hl 7 rfl) ?_
      obtain ⟨r19, e21, h⟩ := bd1_e h
      refine zcallVi (As := [.int y6]) (rest := []) CF hKK (KX0_kindOf_p (dC := dC) (dI := dI) (cI := cI) (cZ := cZ) (a := a) hok e21) (cwV 1 hts gX2_bringsIsland_X0_kindOf rfl rfl rfl cdX0_kindOf ⟨Nat.le_of_ble_eq_true rfl, Nat.le_of_ble_eq_true rfl⟩) 7 0 rfl rfl hz rfl hl.1 rfl (Nat.le_of_ble_eq_true rfl) dX2_bringsIsland_48 ⟨Nat.le_refl _, Nat.le_refl _⟩ (fun H locs hz => ?_)
      refine lv_iconst (v := (5 : Int32)) hx hb dX2_bringsIsland_51 (by decide) ?_
      refine lv_icmp_ne (tgt := 74) hx hb dX2_bringsIsland_52 (by decide) (fun c22 => ?_) (fun c22 => ?_)
      · replace h := ite_f c22 h
        exact b74 k19 hk19 σ y1 y2 y3 y4 y5 y6 r16 _ _ _ h hz (lv_sub hl [1, 2, 3, 4, 5, 6, 7, 0] rfl)
      · replace h := ite_t c22 h
        refine lv_iload hx hb dX2_bringsIsland_55 (lv_at hl 0 rfl) ?_
        refine lv_iload_n hx hb dX2_bringsIsland_57 rfl (lv_at hl 2 rfl) ?_
        obtain ⟨r31, e33, h⟩ := bd1_e h
        refine zcallSNi (As := [.int r16, .int y1]) (rest := []) CF hKK (KX5_far (dC := dC) (dI := dI) (cI := cI) (cZ := cZ) (a := a) hok e33) ⟨va_cnB 2 hts gX2_bringsIsland_X5_far_n142 rfl rfl rfl hKK.2.2.2.2.2.2.2.2.2.2.2.2.2.2.2 (hts _ (List.mem_of_getElem? (i := 11) rfl)) cdX5_far.2 ⟨Nat.le_of_ble_eq_true rfl, Nat.le_of_ble_eq_true rfl⟩, hts _ (List.mem_of_getElem? (i := 10) rfl), trivial⟩ hz rfl hl.1 rfl (Nat.le_of_ble_eq_true rfl) dX2_bringsIsland_58 ⟨Nat.le_refl _, Nat.le_refl _⟩ (fun H locs hz => ?_)
        refine lv_aload_n hx hb dX2_bringsIsland_61 rfl (lv_at hl 1 rfl) ?_
        refine va_get (v := .ref (a 10)) hx hb hts inX2_bringsIsland_X2 hown hKK.1 hz.1 11 rfl rfl 1 (by decide) (hts _ (List.mem_of_getElem? (i := 3) rfl)) (fun _ h9 => h9) rfl dX2_bringsIsland_62 ?_
        refine lv_iconst (v := (1 : Int32)) hx hb dX2_bringsIsland_65 (by decide) ?_
        refine va_iald (f := (σ 10)) hx hb hKK.1 hz.1 10 0 rfl rfl (by decide : vp_inD (1 : Int32) 3) dX2_bringsIsland_66 ?_
        refine lv_icmp_gt (tgt := 74) hx hb dX2_bringsIsland_67 (by decide) (fun c34 => ?_) (fun c34 => ?_)
        · replace h := ite_t c34 h
          exact b74 k19 hk19 σ y1 y2 y3 y4 y5 y6 r16 _ _ _ h hz (lv_sub hl [1, 2, 3, 4, 5, 6, 7, 0] rfl)
        · replace h := ite_f c34 h
          refine lv_iconst (v := (1 : Int32)) hx hb dX2_bringsIsland_70 (by decide) ?_
          refine lv_goto (tgt := 75) hx hb dX2_bringsIsland_71 (by decide) ?_
          exact b75 k19 hk19 σ y1 y2 y3 y4 y5 y6 r16 (1 : Int32) _ _ _ h hz (lv_sub hl [1, 2, 3, 4, 5, 6, 7, 0] rfl)
  have l19 : ∀  (n : Nat), ∀ (σ : St) (y1 : Int32) (y2 : Int32) (y3 : Int32) (y4 : Int32) (y5 : Int32) (y6 : Int32) (H : Heap) (locs : List Loc) (ls : Array Slot), fX2_bringsIsland_l19  n σ y1 y2 y3 y4 y5 y6 = some (r, σ2) → zz (dC, dI) 30 a (wdC cI cZ a σ) s.heap H locs → lv_has ls 9 [(0, .ref (a 11)), (1, .int y1), (2, .int y2), (3, .int y3), (4, .int y4), (5, .int y5), (6, .int y6)] → W p l e rmX2_bringsIsland s m args below meth c H locs 0 0 Q (F0 m 19 ls []) := by
    intro  n
    induction n with
    | zero => intro σ y1 y2 y3 y4 y5 y6 H locs ls h; exact nomatch h
    | succ n ih => exact s19  (fX2_bringsIsland_l19  n) ih
  unfold fX2_bringsIsland at h
  refine lv_aload_n hx hb dX2_bringsIsland_0 rfl (lv_at hl 0 rfl) ?_
  refine lv_iload_n hx hb dX2_bringsIsland_1 rfl (lv_at hl 2 rfl) ?_
  obtain ⟨r1, e3, h⟩ := bd1_e h
  refine zcallVi (As := [.int x2]) (rest := []) CF hKK (KX2_labelAddress (dC := dC) (dI := dI) (cI := cI) (cZ := cZ) (a := a) hok e3) (cwV 1 hts gX2_bringsIsland_X2_labelAddress rfl rfl rfl cdX2_labelAddress ⟨Nat.le_of_ble_eq_true rfl, Nat.le_of_ble_eq_true rfl⟩) 11 2 rfl rfl hz rfl hl.1 rfl (Nat.le_of_ble_eq_true rfl) dX2_bringsIsland_2 ⟨Nat.le_refl _, Nat.le_refl _⟩ (fun H locs hz => ?_)
  refine lv_istore_n (lv' := [(3, .int r1), (0, .ref (a 11)), (1, .int x1), (2, .int x2)]) hx hb dX2_bringsIsland_5 rfl hl (by decide) rfl (fun ls hl => ?_)
  refine lv_iconst (v := (-1 : Int32)) hx hb dX2_bringsIsland_6 (by decide) ?_
  refine lv_istore (lv' := [(4, .int (-1 : Int32)), (3, .int r1), (0, .ref (a 11)), (1, .int x1), (2, .int x2)]) hx hb dX2_bringsIsland_7 hl (by decide) rfl (fun ls hl => ?_)
  refine lv_iload_n hx hb dX2_bringsIsland_9 rfl (lv_at hl 3 rfl) ?_
  refine lv_iload_n hx hb dX2_bringsIsland_10 rfl (lv_at hl 1 rfl) ?_
  obtain ⟨r4, e6, h⟩ := bd1_e h
  refine zcallSNi (As := [.int x1, .int r1]) (rest := []) CF hKK (KX5_far (dC := dC) (dI := dI) (cI := cI) (cZ := cZ) (a := a) hok e6) ⟨va_cnB 2 hts gX2_bringsIsland_X5_far_n142 rfl rfl rfl hKK.2.2.2.2.2.2.2.2.2.2.2.2.2.2.2 (hts _ (List.mem_of_getElem? (i := 11) rfl)) cdX5_far.2 ⟨Nat.le_of_ble_eq_true rfl, Nat.le_of_ble_eq_true rfl⟩, hts _ (List.mem_of_getElem? (i := 10) rfl), trivial⟩ hz rfl hl.1 rfl (Nat.le_of_ble_eq_true rfl) dX2_bringsIsland_11 ⟨Nat.le_refl _, Nat.le_refl _⟩ (fun H locs hz => ?_)
  refine lv_istore (lv' := [(5, .int r4), (4, .int (-1 : Int32)), (3, .int r1), (0, .ref (a 11)), (1, .int x1), (2, .int x2)]) hx hb dX2_bringsIsland_14 hl (by decide) rfl (fun ls hl => ?_)
  refine lv_iconst (v := (0 : Int32)) hx hb dX2_bringsIsland_16 (by decide) ?_
  refine lv_istore (lv' := [(6, .int (0 : Int32)), (5, .int r4), (4, .int (-1 : Int32)), (3, .int r1), (0, .ref (a 11)), (1, .int x1), (2, .int x2)]) hx hb dX2_bringsIsland_17 hl (by decide) rfl (fun ls hl => ?_)
  exact l19  FU σ x1 x2 r1 (-1 : Int32) r4 (0 : Int32) _ _ _ h hz (lv_sub hl [4, 5, 6, 3, 2, 1, 0] rfl)
def fX2_islandAimOf (σ : St) (x1 : Int32) : Option (Int32) :=
  (if x1 < 0 then (some (-1 : Int32)) else ((if (12 : Int32) ≤ x1 then (some (-1 : Int32)) else ((ck (¬ (x1 < 0 ∨ 12 ≤ Int32.toNatClampNeg x1)) <| some ((σ 29) (Int32.toNatClampNeg x1)))))))
abbrev rmX2_islandAimOf : Room := { frames := 0, cells := 0, slots := 0, locals := 0 }
set_option maxHeartbeats 4000000 in
set_option maxRecDepth 100000 in
theorem KX2_islandAimOf {l : Launch} {dC : Nat → ClassId} {dI : Nat → Nat → Nat} {cI cZ : ClassId} {a : Nat → Nat} {σ : St} {x1 : Int32} {r : Int32} (hok : okA 30 a) (h : fX2_islandAimOf σ x1 = some r) (sz : Nat) : Met l yX2_islandAimOf wsX2_islandAimOf rmX2_islandAimOf (Pz (dC, dI) cI cZ (wdC cI cZ a σ) sz [.ref (a 11), .int x1]) (Qzi (dC, dI) 30 a (wdC cI cZ a σ) sz r) 0 0 (aN 30 a sz) := by
  refine Met.ofW (cc := cX2_islandAimOf) (maxL := 2) (ret := (some .int)) (by decide) rfl ?_
  intro p e s m args below meth c s₁ B hml hv
  obtain ⟨hav, hsz, hP, hKK⟩ := hv
  have hx := B.exec
  have hb := B.bytes
  have hr := B.returns
  have hts := atoms_spec (ws := wsX2_islandAimOf) B.pre
  have hown : s.vm.findClass RX2 = some m.cls := findClass_of_methodNamed B.named
  have hlocks := B.notSynchronized
  have CF : CallFix p m c cX2_islandAimOf 2 s args wsX2_islandAimOf RX2 := ⟨hx, hb, hml, hown, hts⟩
  have hz : zz (dC, dI) 30 a (wdC cI cZ a σ) s.heap s.heap [] := ⟨hP, va_S.rf⟩
  have hl := lv_entry [.ref (a 11), .int x1] (n := 2) (Nat.le_of_ble_eq_true rfl)
  have hen : entryFrame m args 2 = entryFrame m ([.ref (a 11), .int x1] : List Value).toArray 2 := by rw [hav]
  rw [hen, lg_entry_eq]
  generalize (lg_sl [.ref (a 11), .int x1] ++ List.replicate (2 - (lg_sl [.ref (a 11), .int x1]).length) Slot.unset).toArray = ls at hl ⊢
  have hl : lv_has ls 2 [(0, .ref (a 11)), (1, .int x1)] := hl
  have eR : (headSpec wsX2_islandAimOf rmX2_islandAimOf).room = rmX2_islandAimOf := rfl
  rw [eR]
  have rt : ∀ (v : Int32) (t : St) (pc : Nat) (H : Heap) (locs : List Loc) (ls : Array Slot), decode cX2_islandAimOf pc = .ok (.ireturn, 1) → some v = some r → zz (dC, dI) 30 a (wdC cI cZ a σ) s.heap H locs → W p l e rmX2_islandAimOf s m args below meth c H locs 0 0 (MQ below (Qzi (dC, dI) 30 a (wdC cI cZ a σ) sz r) args s 0 0 (aN 30 a sz)) (F0 m pc ls [.int v]) := by
    intro v t pc H locs ls hd h hz
    cases h
    exact ziret hsz hx hb hr hlocks hz hd
  generalize (MQ below (Qzi (dC, dI) 30 a (wdC cI cZ a σ) sz r) args s 0 0 (aN 30 a sz)) = Q at rt ⊢
  unfold fX2_islandAimOf at h
  refine lv_iload_n hx hb dX2_islandAimOf_0 rfl (lv_at hl 1 rfl) ?_
  refine lv_if_lt (tgt := 22) hx hb dX2_islandAimOf_1 (by decide) (fun c1 => ?_) (fun c1 => ?_)
  · replace h := ite_t c1 h
    refine lv_iconst (v := (-1 : Int32)) hx hb dX2_islandAimOf_22 (by decide) ?_
    exact rt (-1 : Int32) σ 23 _ _ _ dX2_islandAimOf_23 h hz
  · replace h := ite_f c1 h
    refine lv_iload_n hx hb dX2_islandAimOf_4 rfl (lv_at hl 1 rfl) ?_
    refine lv_aload_n hx hb dX2_islandAimOf_5 rfl (lv_at hl 0 rfl) ?_
    refine va_get (v := .ref (a 29)) hx hb hts inX2_islandAimOf_X2 hown hKK.1 hz.1 11 rfl rfl 9 (by decide) (hts _ (List.mem_of_getElem? (i := 1) rfl)) (fun _ h9 => h9) rfl dX2_islandAimOf_6 ?_
    refine va_alen (v := (12 : Int32)) hx hb hKK.1 hz.1 29 0 rfl rfl rfl dX2_islandAimOf_9 ?_
    refine lv_icmp_ge (tgt := 22) hx hb dX2_islandAimOf_10 (by decide) (fun c2 => ?_) (fun c2 => ?_)
    · replace h := ite_t c2 h
      refine lv_iconst (v := (-1 : Int32)) hx hb dX2_islandAimOf_22 (by decide) ?_
      exact rt (-1 : Int32) σ 23 _ _ _ dX2_islandAimOf_23 h hz
    · replace h := ite_f c2 h
      refine lv_aload_n hx hb dX2_islandAimOf_13 rfl (lv_at hl 0 rfl) ?_
      refine va_get (v := .ref (a 29)) hx hb hts inX2_islandAimOf_X2 hown hKK.1 hz.1 11 rfl rfl 9 (by decide) (hts _ (List.mem_of_getElem? (i := 1) rfl)) (fun _ h9 => h9) rfl dX2_islandAimOf_14 ?_
      refine lv_iload_n hx hb dX2_islandAimOf_17 rfl (lv_at hl 1 rfl) ?_
      obtain ⟨c3, h⟩ := ck_e h
      refine va_iald (f := (σ 29)) hx hb hKK.1 hz.1 29 0 rfl rfl c3 dX2_islandAimOf_18 ?_
      refine lv_goto (tgt := 23) hx hb dX2_islandAimOf_19 (by decide) ?_
      exact rt ((σ 29) (Int32.toNatClampNeg x1)) σ 23 _ _ _ dX2_islandAimOf_23 h hz
def fX2_firstIslandAstray_s2 (σ : St) (k2 : Int32 → Option (Int32)) (y1 : Int32) : Option (Int32) :=
  (bd1 (fX4_size_i σ ) fun r1 => (if r1 ≤ y1 then (some (-1 : Int32)) else ((bd1 (fX2_islandAimOf σ y1) fun r5 => (if r5 = (-1 : Int32) then (some y1) else (k2 (y1 + (1 : Int32))))))))
def fX2_firstIslandAstray_l2 (σ : St)  : Nat → Int32 → Option (Int32) :=
  itr (fX2_firstIslandAstray_s2 σ ) (fun _ => none)
def fX2_firstIslandAstray (σ : St)  : Option (Int32) :=
  fX2_firstIslandAstray_l2 σ  FU (0 : Int32)
abbrev rmX2_firstIslandAstray : Room := { frames := 1, cells := 0, slots := 0, locals := 21 }
set_option maxHeartbeats 4000000 in
set_option maxRecDepth 100000 in
theorem KX2_firstIslandAstray {l : Launch} {dC : Nat → ClassId} {dI : Nat → Nat → Nat} {cI cZ : ClassId} {a : Nat → Nat} {σ : St}  {r : Int32} (hok : okA 30 a) (h : fX2_firstIslandAstray σ  = some r) (sz : Nat) : Met l yX2_firstIslandAstray wsX2_firstIslandAstray rmX2_firstIslandAstray (Pz (dC, dI) cI cZ (wdC cI cZ a σ) sz [.ref (a 11)]) (Qzi (dC, dI) 30 a (wdC cI cZ a σ) sz r) 0 0 (aN 30 a sz) := by
  refine Met.ofW (cc := cX2_firstIslandAstray) (maxL := 2) (ret := (some .int)) (by decide) rfl ?_
  intro p e s m args below meth c s₁ B hml hv
  obtain ⟨hav, hsz, hP, hKK⟩ := hv
  have hx := B.exec
  have hb := B.bytes
  have hr := B.returns
  have hts := atoms_spec (ws := wsX2_firstIslandAstray) B.pre
  have hown : s.vm.findClass RX2 = some m.cls := findClass_of_methodNamed B.named
  have hlocks := B.notSynchronized
  have CF : CallFix p m c cX2_firstIslandAstray 2 s args wsX2_firstIslandAstray RX2 := ⟨hx, hb, hml, hown, hts⟩
  have hz : zz (dC, dI) 30 a (wdC cI cZ a σ) s.heap s.heap [] := ⟨hP, va_S.rf⟩
  have hl := lv_entry [.ref (a 11)] (n := 2) (Nat.le_of_ble_eq_true rfl)
  have hen : entryFrame m args 2 = entryFrame m ([.ref (a 11)] : List Value).toArray 2 := by rw [hav]
  rw [hen, lg_entry_eq]
  generalize (lg_sl [.ref (a 11)] ++ List.replicate (2 - (lg_sl [.ref (a 11)]).length) Slot.unset).toArray = ls at hl ⊢
  have hl : lv_has ls 2 [(0, .ref (a 11))] := hl
  have eR : (headSpec wsX2_firstIslandAstray rmX2_firstIslandAstray).room = rmX2_firstIslandAstray := rfl
  rw [eR]
  have rt : ∀ (v : Int32) (t : St) (pc : Nat) (H : Heap) (locs : List Loc) (ls : Array Slot), decode cX2_firstIslandAstray pc = .ok (.ireturn, 1) → some v = some r → zz (dC, dI) 30 a (wdC cI cZ a σ) s.heap H locs → W p l e rmX2_firstIslandAstray s m args below meth c H locs 0 0 (MQ below (Qzi (dC, dI) 30 a (wdC cI cZ a σ) sz r) args s 0 0 (aN 30 a sz)) (F0 m pc ls [.int v]) := by
    intro v t pc H locs ls hd h hz
    cases h
    exact ziret hsz hx hb hr hlocks hz hd
  generalize (MQ below (Qzi (dC, dI) 30 a (wdC cI cZ a σ) sz r) args s 0 0 (aN 30 a sz)) = Q at rt ⊢
  have s2 : ∀ (k2 : Int32 → Option (Int32)) (hk2 : (∀ (y1 : Int32) (H : Heap) (locs : List Loc) (ls : Array Slot), k2 y1 = some r → zz (dC, dI) 30 a (wdC cI cZ a σ) s.heap H locs → lv_has ls 2 [(0, .ref (a 11)), (1, .int y1)] → W p l e rmX2_firstIslandAstray s m args below meth c H locs 0 0 Q (F0 m 2 ls []))) (y1 : Int32) (H : Heap) (locs : List Loc) (ls : Array Slot), fX2_firstIslandAstray_s2 σ k2 y1 = some r → zz (dC, dI) 30 a (wdC cI cZ a σ) s.heap H locs → lv_has ls 2 [(0, .ref (a 11)), (1, .int y1)] → W p l e rmX2_firstIslandAstray s m args below meth c H locs 0 0 Q (F0 m 2 ls []) := by
    intro k2 hk2 y1 H locs ls h hz hl
    unfold fX2_firstIslandAstray_s2 at h
    refine lv_iload_n hx hb dX2_firstIslandAstray_2 rfl (lv_at hl 1 rfl) ?_
    refine lv_aload_n hx hb dX2_firstIslandAstray_3 rfl (lv_at hl 0 rfl) ?_
    refine va_get (v := .ref (a 12)) hx hb hts inX2_firstIslandAstray_X2 hown hKK.1 hz.1 11 rfl rfl 2 (by decide) (hts _ (List.mem_of_getElem? (i := 1) rfl)) (fun _ h9 => h9) rfl dX2_firstIslandAstray_4 ?_
    obtain ⟨r1, e3, h⟩ := bd1_e h
    refine zcallVi (As := []) (rest := [.int y1]) CF hKK (KX4_size_i (dC := dC) (dI := dI) (cI := cI) (cZ := cZ) (a := a) hok e3) (cwV 0 hts gX2_firstIslandAstray_X4_size rfl rfl rfl cdX4_size ⟨Nat.le_of_ble_eq_true rfl, Nat.le_of_ble_eq_true rfl⟩) 12 4 rfl rfl hz rfl hl.1 rfl (Nat.le_of_ble_eq_true rfl) dX2_firstIslandAstray_7 ⟨Nat.le_refl _, Nat.le_refl _⟩ (fun H locs hz => ?_)
    refine lv_icmp_ge (tgt := 30) hx hb dX2_firstIslandAstray_10 (by decide) (fun c4 => ?_) (fun c4 => ?_)
    · replace h := ite_t c4 h
      refine lv_iconst (v := (-1 : Int32)) hx hb dX2_firstIslandAstray_30 (by decide) ?_
      exact rt (-1 : Int32) σ 31 _ _ _ dX2_firstIslandAstray_31 h hz
    · replace h := ite_f c4 h
      refine lv_aload_n hx hb dX2_firstIslandAstray_13 rfl (lv_at hl 0 rfl) ?_
      refine lv_iload_n hx hb dX2_firstIslandAstray_14 rfl (lv_at hl 1 rfl) ?_
      obtain ⟨r5, e7, h⟩ := bd1_e h
      refine zcallVi (As := [.int y1]) (rest := []) CF hKK (KX2_islandAimOf (dC := dC) (dI := dI) (cI := cI) (cZ := cZ) (a := a) hok e7) (cwV 1 hts gX2_firstIslandAstray_X2_islandAimOf rfl rfl rfl cdX2_islandAimOf ⟨Nat.le_of_ble_eq_true rfl, Nat.le_of_ble_eq_true rfl⟩) 11 2 rfl rfl hz rfl hl.1 rfl (Nat.le_of_ble_eq_true rfl) dX2_firstIslandAstray_15 ⟨Nat.le_refl _, Nat.le_refl _⟩ (fun H locs hz => ?_)
      refine lv_iconst (v := (-1 : Int32)) hx hb dX2_firstIslandAstray_18 (by decide) ?_
      refine lv_icmp_ne (tgt := 24) hx hb dX2_firstIslandAstray_19 (by decide) (fun c8 => ?_) (fun c8 => ?_)
      · replace h := ite_f c8 h
        refine lv_iinc (v := (y1 + (1 : Int32))) (lv' := [(1, .int (y1 + (1 : Int32))), (0, .ref (a 11))]) hx hb dX2_firstIslandAstray_24 hl (k := 1) rfl rfl (by decide) rfl (fun ls hl => ?_)
        refine lv_goto (tgt := 2) hx hb dX2_firstIslandAstray_27 (by decide) ?_
        exact hk2 (y1 + (1 : Int32)) _ _ _ h hz (lv_sub hl [1, 0] rfl)
      · replace h := ite_t c8 h
        refine lv_iload_n hx hb dX2_firstIslandAstray_22 rfl (lv_at hl 1 rfl) ?_
        exact rt y1 σ 23 _ _ _ dX2_firstIslandAstray_23 h hz
  have l2 : ∀  (n : Nat), ∀ (y1 : Int32) (H : Heap) (locs : List Loc) (ls : Array Slot), fX2_firstIslandAstray_l2 σ  n y1 = some r → zz (dC, dI) 30 a (wdC cI cZ a σ) s.heap H locs → lv_has ls 2 [(0, .ref (a 11)), (1, .int y1)] → W p l e rmX2_firstIslandAstray s m args below meth c H locs 0 0 Q (F0 m 2 ls []) := by
    intro  n
    induction n with
    | zero => intro y1 H locs ls h; exact nomatch h
    | succ n ih => exact s2  (fX2_firstIslandAstray_l2 σ  n) ih
  unfold fX2_firstIslandAstray at h
  refine lv_iconst (v := (0 : Int32)) hx hb dX2_firstIslandAstray_0 (by decide) ?_
  refine lv_istore_n (lv' := [(1, .int (0 : Int32)), (0, .ref (a 11))]) hx hb dX2_firstIslandAstray_1 rfl hl (by decide) rfl (fun ls hl => ?_)
  exact l2  FU (0 : Int32) _ _ _ h hz (lv_sub hl [1, 0] rfl)
def fX2_mendsOne (σ : St)  : Option (Int32 × St) :=
  (bd1 (fX2_firstAstray σ (2 : Int32) (0 : Int32)) fun r1 => (if r1 = (-1 : Int32) then ((bd1 (fX2_firstAstray σ (1 : Int32) (0 : Int32)) fun r5 => (if r5 = (-1 : Int32) then ((bd1 (fX2_firstAstray σ (2 : Int32) (1 : Int32)) fun r9 => (if r9 = (-1 : Int32) then ((bd1 (fX2_firstIslandAstray σ ) fun r13 => (if r13 = (-1 : Int32) then (some ((0 : Int32), σ)) else ((bd1 (fX4_addressOf_i σ r13) fun r17 => (bd1 (fX4_nameOf_i σ r13) fun r20 => (bd2 (fX2_bringsIsland σ r17 r20) fun r23 s24 => (if r23 = 0 then ((bd2 (fX2_fails s24 (3 : Int32) r13) fun r27 s28 => (if r27 = 0 then (some ((0 : Int32), s28)) else (some ((1 : Int32), s28))))) else (some ((1 : Int32), s24)))))))))) else ((bd1 (fX2_addressOf σ r9) fun r31 => (bd1 (fX0_toldOf_p σ r9) fun r34 => (bd2 (fX2_bringsIsland σ r31 r34) fun r37 s38 => (if r37 = 0 then ((bd2 (fX2_fails s38 (2 : Int32) r9) fun r41 s42 => (if r41 = 0 then (some ((0 : Int32), s42)) else (some ((1 : Int32), s42))))) else (some ((1 : Int32), s38)))))))))) else ((bd2 (fX2_bringsConstant σ r5) fun r45 s46 => (if r45 = 0 then ((bd2 (fX2_fails s46 (1 : Int32) r5) fun r49 s50 => (if r49 = 0 then (some ((0 : Int32), s50)) else (some ((1 : Int32), s50))))) else (some ((1 : Int32), s46)))))))) else ((bd2 (fX2_lengthens σ r1) fun r53 s54 => (ck (r53 = 0 ∨ r53 = 1) <| some (r53, s54))))))
abbrev rmX2_mendsOne : Room := { frames := 4, cells := 0, slots := 0, locals := 87 }
set_option maxHeartbeats 4000000 in
set_option maxRecDepth 100000 in
theorem KX2_mendsOne {l : Launch} {dC : Nat → ClassId} {dI : Nat → Nat → Nat} {cI cZ : ClassId} {a : Nat → Nat} {σ : St}  {r : Int32} {σ2 : St} (hok : okA 30 a) (h : fX2_mendsOne σ  = some (r, σ2)) (sz : Nat) : Met l yX2_mendsOne wsX2_mendsOne rmX2_mendsOne (Pz (dC, dI) cI cZ (wdC cI cZ a σ) sz [.ref (a 11)]) (Qzi (dC, dI) 30 a (wdC cI cZ a σ2) sz r) 0 0 (aN 30 a sz) := by
  refine Met.ofW (cc := cX2_mendsOne) (maxL := 2) (ret := (some .boolean)) (by decide) rfl ?_
  intro p e s m args below meth c s₁ B hml hv
  obtain ⟨hav, hsz, hP, hKK⟩ := hv
  have hx := B.exec
  have hb := B.bytes
  have hr := B.returns
  have hts := atoms_spec (ws := wsX2_mendsOne) B.pre
  have hown : s.vm.findClass RX2 = some m.cls := findClass_of_methodNamed B.named
  have hlocks := B.notSynchronized
  have CF : CallFix p m c cX2_mendsOne 2 s args wsX2_mendsOne RX2 := ⟨hx, hb, hml, hown, hts⟩
  have hz : zz (dC, dI) 30 a (wdC cI cZ a σ) s.heap s.heap [] := ⟨hP, va_S.rf⟩
  have hl := lv_entry [.ref (a 11)] (n := 2) (Nat.le_of_ble_eq_true rfl)
  have hen : entryFrame m args 2 = entryFrame m ([.ref (a 11)] : List Value).toArray 2 := by rw [hav]
  rw [hen, lg_entry_eq]
  generalize (lg_sl [.ref (a 11)] ++ List.replicate (2 - (lg_sl [.ref (a 11)]).length) Slot.unset).toArray = ls at hl ⊢
  have hl : lv_has ls 2 [(0, .ref (a 11))] := hl
  have eR : (headSpec wsX2_mendsOne rmX2_mendsOne).room = rmX2_mendsOne := rfl
  rw [eR]
  have rt : ∀ (v : Int32) (t : St) (pc : Nat) (H : Heap) (locs : List Loc) (ls : Array Slot), decode cX2_mendsOne pc = .ok (.ireturn, 1) → some (v, t) = some (r, σ2) → zz (dC, dI) 30 a (wdC cI cZ a t) s.heap H locs → (v = 0 ∨ v = 1) → W p l e rmX2_mendsOne s m args below meth c H locs 0 0 (MQ below (Qzi (dC, dI) 30 a (wdC cI cZ a σ2) sz r) args s 0 0 (aN 30 a sz)) (F0 m pc ls [.int v]) := by
    intro v t pc H locs ls hd h hz hv
    cases h
    exact zzret hsz hx hb hr hlocks hv hz hd
  generalize (MQ below (Qzi (dC, dI) 30 a (wdC cI cZ a σ2) sz r) args s 0 0 (aN 30 a sz)) = Q at rt ⊢
  unfold fX2_mendsOne at h
  refine lv_aload_n hx hb dX2_mendsOne_0 rfl (lv_at hl 0 rfl) ?_
  refine lv_iconst (v := (2 : Int32)) hx hb dX2_mendsOne_1 (by decide) ?_
  refine lv_iconst (v := (0 : Int32)) hx hb dX2_mendsOne_2 (by decide) ?_
  obtain ⟨r1, e3, h⟩ := bd1_e h
  refine zcallVi (As := [.int (2 : Int32), .int (0 : Int32)]) (rest := []) CF hKK (KX2_firstAstray (dC := dC) (dI := dI) (cI := cI) (cZ := cZ) (a := a) hok e3) (cwV 2 hts gX2_mendsOne_X2_firstAstray rfl rfl rfl cdX2_firstAstray ⟨Nat.le_of_ble_eq_true rfl, Nat.le_of_ble_eq_true rfl⟩) 11 2 rfl rfl hz rfl hl.1 rfl (Nat.le_of_ble_eq_true rfl) dX2_mendsOne_3 ⟨Nat.le_refl _, Nat.le_refl _⟩ (fun H locs hz => ?_)
  refine lv_istore_n (lv' := [(1, .int r1), (0, .ref (a 11))]) hx hb dX2_mendsOne_6 rfl hl (by decide) rfl (fun ls hl => ?_)
  refine lv_iload_n hx hb dX2_mendsOne_7 rfl (lv_at hl 0 rfl) ?_
  refine lv_iconst (v := (-1 : Int32)) hx hb dX2_mendsOne_8 (by decide) ?_
  refine lv_icmp_eq (tgt := 18) hx hb dX2_mendsOne_9 (by decide) (fun c4 => ?_) (fun c4 => ?_)
  · replace h := ite_t c4 h
    refine lv_aload_n hx hb dX2_mendsOne_18 rfl (lv_at hl 1 rfl) ?_
    refine lv_iconst (v := (1 : Int32)) hx hb dX2_mendsOne_19 (by decide) ?_
    refine lv_iconst (v := (0 : Int32)) hx hb dX2_mendsOne_20 (by decide) ?_
    obtain ⟨r5, e7, h⟩ := bd1_e h
    refine zcallVi (As := [.int (1 : Int32), .int (0 : Int32)]) (rest := []) CF hKK (KX2_firstAstray (dC := dC) (dI := dI) (cI := cI) (cZ := cZ) (a := a) hok e7) (cwV 2 hts gX2_mendsOne_X2_firstAstray rfl rfl rfl cdX2_firstAstray ⟨Nat.le_of_ble_eq_true rfl, Nat.le_of_ble_eq_true rfl⟩) 11 2 rfl rfl hz rfl hl.1 rfl (Nat.le_of_ble_eq_true rfl) dX2_mendsOne_21 ⟨Nat.le_refl _, Nat.le_refl _⟩ (fun H locs hz => ?_)
    refine lv_istore_n (lv' := [(1, .int r5), (0, .ref (a 11))]) hx hb dX2_mendsOne_24 rfl hl (by decide) rfl (fun ls hl => ?_)
    refine lv_iload_n hx hb dX2_mendsOne_25 rfl (lv_at hl 0 rfl) ?_
    refine lv_iconst (v := (-1 : Int32)) hx hb dX2_mendsOne_26 (by decide) ?_
    refine lv_icmp_eq (tgt := 53) hx hb dX2_mendsOne_27 (by decide) (fun c8 => ?_) (fun c8 => ?_)
    · replace h := ite_t c8 h
      refine lv_aload_n hx hb dX2_mendsOne_53 rfl (lv_at hl 1 rfl) ?_
      refine lv_iconst (v := (2 : Int32)) hx hb dX2_mendsOne_54 (by decide) ?_
      refine lv_iconst (v := (1 : Int32)) hx hb dX2_mendsOne_55 (by decide) ?_
      obtain ⟨r9, e11, h⟩ := bd1_e h
      refine zcallVi (As := [.int (2 : Int32), .int (1 : Int32)]) (rest := []) CF hKK (KX2_firstAstray (dC := dC) (dI := dI) (cI := cI) (cZ := cZ) (a := a) hok e11) (cwV 2 hts gX2_mendsOne_X2_firstAstray rfl rfl rfl cdX2_firstAstray ⟨Nat.le_of_ble_eq_true rfl, Nat.le_of_ble_eq_true rfl⟩) 11 2 rfl rfl hz rfl hl.1 rfl (Nat.le_of_ble_eq_true rfl) dX2_mendsOne_56 ⟨Nat.le_refl _, Nat.le_refl _⟩ (fun H locs hz => ?_)
      refine lv_istore_n (lv' := [(1, .int r9), (0, .ref (a 11))]) hx hb dX2_mendsOne_59 rfl hl (by decide) rfl (fun ls hl => ?_)
      refine lv_iload_n hx hb dX2_mendsOne_60 rfl (lv_at hl 0 rfl) ?_
      refine lv_iconst (v := (-1 : Int32)) hx hb dX2_mendsOne_61 (by decide) ?_
      refine lv_icmp_eq (tgt := 100) hx hb dX2_mendsOne_62 (by decide) (fun c12 => ?_) (fun c12 => ?_)
      · replace h := ite_t c12 h
        refine lv_aload_n hx hb dX2_mendsOne_100 rfl (lv_at hl 1 rfl) ?_
        obtain ⟨r13, e15, h⟩ := bd1_e h
        refine zcallVi (As := []) (rest := []) CF hKK (KX2_firstIslandAstray (dC := dC) (dI := dI) (cI := cI) (cZ := cZ) (a := a) hok e15) (cwV 0 hts gX2_mendsOne_X2_firstIslandAstray rfl rfl rfl cdX2_firstIslandAstray ⟨Nat.le_of_ble_eq_true rfl, Nat.le_of_ble_eq_true rfl⟩) 11 2 rfl rfl hz rfl hl.1 rfl (Nat.le_of_ble_eq_true rfl) dX2_mendsOne_101 ⟨Nat.le_refl _, Nat.le_refl _⟩ (fun H locs hz => ?_)
        refine lv_istore_n (lv' := [(1, .int r13), (0, .ref (a 11))]) hx hb dX2_mendsOne_104 rfl hl (by decide) rfl (fun ls hl => ?_)
        refine lv_iload_n hx hb dX2_mendsOne_105 rfl (lv_at hl 0 rfl) ?_
        refine lv_iconst (v := (-1 : Int32)) hx hb dX2_mendsOne_106 (by decide) ?_
        refine lv_icmp_eq (tgt := 148) hx hb dX2_mendsOne_107 (by decide) (fun c16 => ?_) (fun c16 => ?_)
        · replace h := ite_t c16 h
          refine lv_iconst (v := (0 : Int32)) hx hb dX2_mendsOne_148 (by decide) ?_
          exact rt (0 : Int32) σ 149 _ _ _ dX2_mendsOne_149 h hz (Or.inl rfl)
        · replace h := ite_f c16 h
          refine lv_aload_n hx hb dX2_mendsOne_110 rfl (lv_at hl 1 rfl) ?_
          refine lv_aload_n hx hb dX2_mendsOne_111 rfl (lv_at hl 1 rfl) ?_
          refine va_get (v := .ref (a 12)) hx hb hts inX2_mendsOne_X2 hown hKK.1 hz.1 11 rfl rfl 2 (by decide) (hts _ (List.mem_of_getElem? (i := 2) rfl)) (fun _ h9 => h9) rfl dX2_mendsOne_112 ?_
          refine lv_iload_n hx hb dX2_mendsOne_115 rfl (lv_at hl 0 rfl) ?_
          obtain ⟨r17, e19, h⟩ := bd1_e h
          refine zcallVi (As := [.int r13]) (rest := [.ref (a 11)]) CF hKK (KX4_addressOf_i (dC := dC) (dI := dI) (cI := cI) (cZ := cZ) (a := a) hok e19) (cwV 1 hts gX2_mendsOne_X4_addressOf rfl rfl rfl cdX4_addressOf ⟨Nat.le_of_ble_eq_true rfl, Nat.le_of_ble_eq_true rfl⟩) 12 4 rfl rfl hz rfl hl.1 rfl (Nat.le_of_ble_eq_true rfl) dX2_mendsOne_116 ⟨Nat.le_refl _, Nat.le_refl _⟩ (fun H locs hz => ?_)
          refine lv_aload_n hx hb dX2_mendsOne_119 rfl (lv_at hl 1 rfl) ?_
          refine va_get (v := .ref (a 12)) hx hb hts inX2_mendsOne_X2 hown hKK.1 hz.1 11 rfl rfl 2 (by decide) (hts _ (List.mem_of_getElem? (i := 2) rfl)) (fun _ h9 => h9) rfl dX2_mendsOne_120 ?_
          refine lv_iload_n hx hb dX2_mendsOne_123 rfl (lv_at hl 0 rfl) ?_
          obtain ⟨r20, e22, h⟩ := bd1_e h
          refine zcallVi (As := [.int r13]) (rest := [.int r17, .ref (a 11)]) CF hKK (KX4_nameOf_i (dC := dC) (dI := dI) (cI := cI) (cZ := cZ) (a := a) hok e22) (cwV 1 hts gX2_mendsOne_X4_nameOf rfl rfl rfl cdX4_nameOf ⟨Nat.le_of_ble_eq_true rfl, Nat.le_of_ble_eq_true rfl⟩) 12 4 rfl rfl hz rfl hl.1 rfl (Nat.le_of_ble_eq_true rfl) dX2_mendsOne_124 ⟨Nat.le_refl _, Nat.le_refl _⟩ (fun H locs hz => ?_)
          obtain ⟨r23, s24, e25, h⟩ := bd2_e h
          refine zcallVi (As := [.int r17, .int r20]) (rest := []) CF hKK (KX2_bringsIsland (dC := dC) (dI := dI) (cI := cI) (cZ := cZ) (a := a) hok e25) (cwV 2 hts gX2_mendsOne_X2_bringsIsland rfl rfl rfl cdX2_bringsIsland ⟨Nat.le_of_ble_eq_true rfl, Nat.le_of_ble_eq_true rfl⟩) 11 2 rfl rfl hz rfl hl.1 rfl (Nat.le_of_ble_eq_true rfl) dX2_mendsOne_127 ⟨Nat.le_refl _, Nat.le_refl _⟩ (fun H locs hz => ?_)
          refine lv_if_ne (tgt := 142) hx hb dX2_mendsOne_130 (by decide) (fun c26 => ?_) (fun c26 => ?_)
          · replace h := ite_f c26 h
            refine lv_iconst (v := (1 : Int32)) hx hb dX2_mendsOne_142 (by decide) ?_
            refine lv_goto (tgt := 147) hx hb dX2_mendsOne_143 (by decide) ?_
            exact rt (1 : Int32) s24 147 _ _ _ dX2_mendsOne_147 h hz (Or.inr rfl)
          · replace h := ite_t c26 h
            refine lv_aload_n hx hb dX2_mendsOne_133 rfl (lv_at hl 1 rfl) ?_
            refine lv_iconst (v := (3 : Int32)) hx hb dX2_mendsOne_134 (by decide) ?_
            refine lv_iload_n hx hb dX2_mendsOne_135 rfl (lv_at hl 0 rfl) ?_
            obtain ⟨r27, s28, e29, h⟩ := bd2_e h
            refine zcallVi (As := [.int (3 : Int32), .int r13]) (rest := []) CF hKK (KX2_fails (dC := dC) (dI := dI) (cI := cI) (cZ := cZ) (a := a) hok e29) (cwV 2 hts gX2_mendsOne_X2_fails rfl rfl rfl cdX2_fails ⟨Nat.le_of_ble_eq_true rfl, Nat.le_of_ble_eq_true rfl⟩) 11 2 rfl rfl hz rfl hl.1 rfl (Nat.le_of_ble_eq_true rfl) dX2_mendsOne_136 ⟨Nat.le_refl _, Nat.le_refl _⟩ (fun H locs hz => ?_)
            refine lv_if_eq (tgt := 146) hx hb dX2_mendsOne_139 (by decide) (fun c30 => ?_) (fun c30 => ?_)
            · replace h := ite_t c30 h
              refine lv_iconst (v := (0 : Int32)) hx hb dX2_mendsOne_146 (by decide) ?_
              exact rt (0 : Int32) s28 147 _ _ _ dX2_mendsOne_147 h hz (Or.inl rfl)
            · replace h := ite_f c30 h
              refine lv_iconst (v := (1 : Int32)) hx hb dX2_mendsOne_142 (by decide) ?_
              refine lv_goto (tgt := 147) hx hb dX2_mendsOne_143 (by decide) ?_
              exact rt (1 : Int32) s28 147 _ _ _ dX2_mendsOne_147 h hz (Or.inr rfl)
      · replace h := ite_f c12 h
        refine lv_aload_n hx hb dX2_mendsOne_65 rfl (lv_at hl 1 rfl) ?_
        refine lv_aload_n hx hb dX2_mendsOne_66 rfl (lv_at hl 1 rfl) ?_
        refine lv_iload_n hx hb dX2_mendsOne_67 rfl (lv_at hl 0 rfl) ?_
        obtain ⟨r31, e33, h⟩ := bd1_e h
        refine zcallVi (As := [.int r9]) (rest := [.ref (a 11)]) CF hKK (KX2_addressOf (dC := dC) (dI := dI) (cI := cI) (cZ := cZ) (a := a) hok e33) (cwV 1 hts gX2_mendsOne_X2_addressOf rfl rfl rfl cdX2_addressOf ⟨Nat.le_of_ble_eq_true rfl, Nat.le_of_ble_eq_true rfl⟩) 11 2 rfl rfl hz rfl hl.1 rfl (Nat.le_of_ble_eq_true rfl) dX2_mendsOne_68 ⟨Nat.le_refl _, Nat.le_refl _⟩ (fun H locs hz => ?_)
        refine lv_aload_n hx hb dX2_mendsOne_71 rfl (lv_at hl 1 rfl) ?_
        refine va_get (v := .ref (a 7)) hx hb hts inX2_mendsOne_X2 hown hKK.1 hz.1 11 rfl rfl 0 (by decide) (hts _ (List.mem_of_getElem? (i := 1) rfl)) (fun _ h9 => h9) rfl dX2_mendsOne_72 ?_
        refine lv_iload_n hx hb dX2_mendsOne_75 rfl (lv_at hl 0 rfl) ?_
        obtain ⟨r34, e36, h⟩ := bd1_e h
        refine zcallVi (As := [.int r9]) (rest := [.int r31, .ref (a 11)]) CF hKK (KX0_toldOf_p (dC := dC) (dI := dI) (cI := cI) (cZ := cZ) (a := a) hok e36) (cwV 1 hts gX2_mendsOne_X0_toldOf rfl rfl rfl cdX0_toldOf ⟨Nat.le_of_ble_eq_true rfl, Nat.le_of_ble_eq_true rfl⟩) 7 0 rfl rfl hz rfl hl.1 rfl (Nat.le_of_ble_eq_true rfl) dX2_mendsOne_76 ⟨Nat.le_refl _, Nat.le_refl _⟩ (fun H locs hz => ?_)
        obtain ⟨r37, s38, e39, h⟩ := bd2_e h
        refine zcallVi (As := [.int r31, .int r34]) (rest := []) CF hKK (KX2_bringsIsland (dC := dC) (dI := dI) (cI := cI) (cZ := cZ) (a := a) hok e39) (cwV 2 hts gX2_mendsOne_X2_bringsIsland rfl rfl rfl cdX2_bringsIsland ⟨Nat.le_of_ble_eq_true rfl, Nat.le_of_ble_eq_true rfl⟩) 11 2 rfl rfl hz rfl hl.1 rfl (Nat.le_of_ble_eq_true rfl) dX2_mendsOne_79 ⟨Nat.le_refl _, Nat.le_refl _⟩ (fun H locs hz => ?_)
        refine lv_if_ne (tgt := 94) hx hb dX2_mendsOne_82 (by decide) (fun c40 => ?_) (fun c40 => ?_)
        · replace h := ite_f c40 h
          refine lv_iconst (v := (1 : Int32)) hx hb dX2_mendsOne_94 (by decide) ?_
          refine lv_goto (tgt := 99) hx hb dX2_mendsOne_95 (by decide) ?_
          exact rt (1 : Int32) s38 99 _ _ _ dX2_mendsOne_99 h hz (Or.inr rfl)
        · replace h := ite_t c40 h
          refine lv_aload_n hx hb dX2_mendsOne_85 rfl (lv_at hl 1 rfl) ?_
          refine lv_iconst (v := (2 : Int32)) hx hb dX2_mendsOne_86 (by decide) ?_
          refine lv_iload_n hx hb dX2_mendsOne_87 rfl (lv_at hl 0 rfl) ?_
          obtain ⟨r41, s42, e43, h⟩ := bd2_e h
          refine zcallVi (As := [.int (2 : Int32), .int r9]) (rest := []) CF hKK (KX2_fails (dC := dC) (dI := dI) (cI := cI) (cZ := cZ) (a := a) hok e43) (cwV 2 hts gX2_mendsOne_X2_fails rfl rfl rfl cdX2_fails ⟨Nat.le_of_ble_eq_true rfl, Nat.le_of_ble_eq_true rfl⟩) 11 2 rfl rfl hz rfl hl.1 rfl (Nat.le_of_ble_eq_true rfl) dX2_mendsOne_88 ⟨Nat.le_refl _, Nat.le_refl _⟩ (fun H locs hz => ?_)
          refine lv_if_eq (tgt := 98) hx hb dX2_mendsOne_91 (by decide) (fun c44 => ?_) (fun c44 => ?_)
          · replace h := ite_t c44 h
            refine lv_iconst (v := (0 : Int32)) hx hb dX2_mendsOne_98 (by decide) ?_
            exact rt (0 : Int32) s42 99 _ _ _ dX2_mendsOne_99 h hz (Or.inl rfl)
          · replace h := ite_f c44 h
            refine lv_iconst (v := (1 : Int32)) hx hb dX2_mendsOne_94 (by decide) ?_
            refine lv_goto (tgt := 99) hx hb dX2_mendsOne_95 (by decide) ?_
            exact rt (1 : Int32) s42 99 _ _ _ dX2_mendsOne_99 h hz (Or.inr rfl)
    · replace h := ite_f c8 h
      refine lv_aload_n hx hb dX2_mendsOne_30 rfl (lv_at hl 1 rfl) ?_
      refine lv_iload_n hx hb dX2_mendsOne_31 rfl (lv_at hl 0 rfl) ?_
      obtain ⟨r45, s46, e47, h⟩ := bd2_e h
      refine zcallVi (As := [.int r5]) (rest := []) CF hKK (KX2_bringsConstant (dC := dC) (dI := dI) (cI := cI) (cZ := cZ) (a := a) hok e47) (cwV 1 hts gX2_mendsOne_X2_bringsConstant rfl rfl rfl cdX2_bringsConstant ⟨Nat.le_of_ble_eq_true rfl, Nat.le_of_ble_eq_true rfl⟩) 11 2 rfl rfl hz rfl hl.1 rfl (Nat.le_of_ble_eq_true rfl) dX2_mendsOne_32 ⟨Nat.le_refl _, Nat.le_refl _⟩ (fun H locs hz => ?_)
      refine lv_if_ne (tgt := 47) hx hb dX2_mendsOne_35 (by decide) (fun c48 => ?_) (fun c48 => ?_)
      · replace h := ite_f c48 h
        refine lv_iconst (v := (1 : Int32)) hx hb dX2_mendsOne_47 (by decide) ?_
        refine lv_goto (tgt := 52) hx hb dX2_mendsOne_48 (by decide) ?_
        exact rt (1 : Int32) s46 52 _ _ _ dX2_mendsOne_52 h hz (Or.inr rfl)
      · replace h := ite_t c48 h
        refine lv_aload_n hx hb dX2_mendsOne_38 rfl (lv_at hl 1 rfl) ?_
        refine lv_iconst (v := (1 : Int32)) hx hb dX2_mendsOne_39 (by decide) ?_
        refine lv_iload_n hx hb dX2_mendsOne_40 rfl (lv_at hl 0 rfl) ?_
        obtain ⟨r49, s50, e51, h⟩ := bd2_e h
        refine zcallVi (As := [.int (1 : Int32), .int r5]) (rest := []) CF hKK (KX2_fails (dC := dC) (dI := dI) (cI := cI) (cZ := cZ) (a := a) hok e51) (cwV 2 hts gX2_mendsOne_X2_fails rfl rfl rfl cdX2_fails ⟨Nat.le_of_ble_eq_true rfl, Nat.le_of_ble_eq_true rfl⟩) 11 2 rfl rfl hz rfl hl.1 rfl (Nat.le_of_ble_eq_true rfl) dX2_mendsOne_41 ⟨Nat.le_refl _, Nat.le_refl _⟩ (fun H locs hz => ?_)
        refine lv_if_eq (tgt := 51) hx hb dX2_mendsOne_44 (by decide) (fun c52 => ?_) (fun c52 => ?_)
        · replace h := ite_t c52 h
          refine lv_iconst (v := (0 : Int32)) hx hb dX2_mendsOne_51 (by decide) ?_
          exact rt (0 : Int32) s50 52 _ _ _ dX2_mendsOne_52 h hz (Or.inl rfl)
        · replace h := ite_f c52 h
          refine lv_iconst (v := (1 : Int32)) hx hb dX2_mendsOne_47 (by decide) ?_
          refine lv_goto (tgt := 52) hx hb dX2_mendsOne_48 (by decide) ?_
          exact rt (1 : Int32) s50 52 _ _ _ dX2_mendsOne_52 h hz (Or.inr rfl)
  · replace h := ite_f c4 h
    refine lv_aload_n hx hb dX2_mendsOne_12 rfl (lv_at hl 1 rfl) ?_
    refine lv_iload_n hx hb dX2_mendsOne_13 rfl (lv_at hl 0 rfl) ?_
    obtain ⟨r53, s54, e55, h⟩ := bd2_e h
    refine zcallVi (As := [.int r1]) (rest := []) CF hKK (KX2_lengthens (dC := dC) (dI := dI) (cI := cI) (cZ := cZ) (a := a) hok e55) (cwV 1 hts gX2_mendsOne_X2_lengthens rfl rfl rfl cdX2_lengthens ⟨Nat.le_of_ble_eq_true rfl, Nat.le_of_ble_eq_true rfl⟩) 11 2 rfl rfl hz rfl hl.1 rfl (Nat.le_of_ble_eq_true rfl) dX2_mendsOne_14 ⟨Nat.le_refl _, Nat.le_refl _⟩ (fun H locs hz => ?_)
    obtain ⟨c56, h⟩ := ck_e h
    exact rt r53 s54 17 _ _ _ dX2_mendsOne_17 h hz c56
def fX2_placeAll_s17 (k17 : St → Int32 → Option (St)) (σ : St) (y1 : Int32) : Option (St) :=
  (if y1 = 0 then (some σ) else ((if (53 : Int32) ≤ (σ 51 0) then (some σ) else ((bd1 (fX2_lay (si σ 51 ((σ 51 0) + (1 : Int32))) ) fun s11 => (bd1 (fX2_aimItems s11 ) fun s14 => (bd1 (fX2_aimIslands s14 ) fun s17 => (bd2 (fX2_mendsOne s17 ) fun r19 s20 => k17 s20 r19))))))))
def fX2_placeAll_l17  : Nat → St → Int32 → Option (St) :=
  itr (fX2_placeAll_s17 ) (fun _ _ => none)
def fX2_placeAll (σ : St)  : Option (St) :=
  (bd1 (fX2_clear σ ) fun s2 => (bd1 (fX0_size_p s2 ) fun r4 => (if r4 = 0 then (some s2) else (fX2_placeAll_l17  FU s2 (1 : Int32)))))
abbrev rmX2_placeAll : Room := { frames := 5, cells := 0, slots := 0, locals := 117 }
set_option maxHeartbeats 4000000 in
set_option maxRecDepth 100000 in
theorem KX2_placeAll {l : Launch} {dC : Nat → ClassId} {dI : Nat → Nat → Nat} {cI cZ : ClassId} {a : Nat → Nat} {σ : St}  {σ2 : St} (hok : okA 30 a) (h : fX2_placeAll σ  = some σ2) (sz : Nat) : Met l yX2_placeAll wsX2_placeAll rmX2_placeAll (Pz (dC, dI) cI cZ (wdC cI cZ a σ) sz [.ref (a 11)]) (Qzv (dC, dI) 30 a (wdC cI cZ a σ2) sz) 0 0 (aN 30 a sz) := by
  refine Met.ofW (cc := cX2_placeAll) (maxL := 2) (ret := none) (by decide) rfl ?_
  intro p e s m args below meth c s₁ B hml hv
  obtain ⟨hav, hsz, hP, hKK⟩ := hv
  have hx := B.exec
  have hb := B.bytes
  have hr := B.returns
  have hts := atoms_spec (ws := wsX2_placeAll) B.pre
  have hown : s.vm.findClass RX2 = some m.cls := findClass_of_methodNamed B.named
  have hlocks := B.notSynchronized
  have CF : CallFix p m c cX2_placeAll 2 s args wsX2_placeAll RX2 := ⟨hx, hb, hml, hown, hts⟩
  have hz : zz (dC, dI) 30 a (wdC cI cZ a σ) s.heap s.heap [] := ⟨hP, va_S.rf⟩
  have hl := lv_entry [.ref (a 11)] (n := 2) (Nat.le_of_ble_eq_true rfl)
  have hen : entryFrame m args 2 = entryFrame m ([.ref (a 11)] : List Value).toArray 2 := by rw [hav]
  rw [hen, lg_entry_eq]
  generalize (lg_sl [.ref (a 11)] ++ List.replicate (2 - (lg_sl [.ref (a 11)]).length) Slot.unset).toArray = ls at hl ⊢
  have hl : lv_has ls 2 [(0, .ref (a 11))] := hl
  have eR : (headSpec wsX2_placeAll rmX2_placeAll).room = rmX2_placeAll := rfl
  rw [eR]
  have rt : ∀ (t : St) (pc : Nat) (H : Heap) (locs : List Loc) (ls : Array Slot), decode cX2_placeAll pc = .ok (.return_, 1) → some t = some σ2 → zz (dC, dI) 30 a (wdC cI cZ a t) s.heap H locs → W p l e rmX2_placeAll s m args below meth c H locs 0 0 (MQ below (Qzv (dC, dI) 30 a (wdC cI cZ a σ2) sz) args s 0 0 (aN 30 a sz)) (F0 m pc ls []) := by
    intro t pc H locs ls hd h hz
    cases h
    exact zvret hsz hx hb hr hlocks hz hd
  generalize (MQ below (Qzv (dC, dI) 30 a (wdC cI cZ a σ2) sz) args s 0 0 (aN 30 a sz)) = Q at rt ⊢
  have s17 : ∀ (k17 : St → Int32 → Option (St)) (hk17 : (∀ (σ : St) (y1 : Int32) (H : Heap) (locs : List Loc) (ls : Array Slot), k17 σ y1 = some σ2 → zz (dC, dI) 30 a (wdC cI cZ a σ) s.heap H locs → lv_has ls 2 [(0, .ref (a 11)), (1, .int y1)] → W p l e rmX2_placeAll s m args below meth c H locs 0 0 Q (F0 m 17 ls []))) (σ : St) (y1 : Int32) (H : Heap) (locs : List Loc) (ls : Array Slot), fX2_placeAll_s17 k17 σ y1 = some σ2 → zz (dC, dI) 30 a (wdC cI cZ a σ) s.heap H locs → lv_has ls 2 [(0, .ref (a 11)), (1, .int y1)] → W p l e rmX2_placeAll s m args below meth c H locs 0 0 Q (F0 m 17 ls []) := by
    intro k17 hk17 σ y1 H locs ls h hz hl
    unfold fX2_placeAll_s17 at h
    refine lv_iload_n hx hb dX2_placeAll_17 rfl (lv_at hl 1 rfl) ?_
    refine lv_if_eq (tgt := 60) hx hb dX2_placeAll_18 (by decide) (fun c8 => ?_) (fun c8 => ?_)
    · replace h := ite_t c8 h
      exact rt σ 60 _ _ _ dX2_placeAll_60 h hz
    · replace h := ite_f c8 h
      refine lv_aload_n hx hb dX2_placeAll_21 rfl (lv_at hl 0 rfl) ?_
      refine va_get (v := .int (σ 51 0)) hx hb hts inX2_placeAll_X2 hown hKK.1 hz.1 11 rfl rfl 11 (by decide) (hts _ (List.mem_of_getElem? (i := 2) rfl)) (fun _ h9 => h9) rfl dX2_placeAll_22 ?_
      refine lv_bipush (v := (53 : Int32)) hx hb dX2_placeAll_25 (by decide) ?_
      refine lv_icmp_ge (tgt := 60) hx hb dX2_placeAll_27 (by decide) (fun c9 => ?_) (fun c9 => ?_)
      · replace h := ite_t c9 h
        exact rt σ 60 _ _ _ dX2_placeAll_60 h hz
      · replace h := ite_f c9 h
        refine lv_aload_n hx hb dX2_placeAll_30 rfl (lv_at hl 0 rfl) ?_
        refine lv_dup hx hb dX2_placeAll_31 rfl ?_
        refine va_get (v := .int (σ 51 0)) hx hb hts inX2_placeAll_X2 hown hKK.1 hz.1 11 rfl rfl 11 (by decide) (hts _ (List.mem_of_getElem? (i := 2) rfl)) (fun _ h9 => h9) rfl dX2_placeAll_32 ?_
        refine lv_iconst (v := (1 : Int32)) hx hb dX2_placeAll_35 (by decide) ?_
        refine lv_iadd hx hb dX2_placeAll_36 ?_
        refine zput (ty := .int) (w' := wdC cI cZ a (si σ 51 ((σ 51 0) + (1 : Int32)))) hx hb hts inX2_placeAll_X2 tyX2 tyX2_ok nmX2 hown hKK hok wkC hz 11 rfl rfl 11 (by decide) (hts _ (List.mem_of_getElem? (i := 2) rfl)) (fun _ h9 => h9) rfl rfl rfl rfl (Nat.le_of_ble_eq_true rfl) setCi_51 dX2_placeAll_37 (fun H locs hz => ?_)
        refine lv_aload_n hx hb dX2_placeAll_40 rfl (lv_at hl 0 rfl) ?_
        obtain ⟨s11, e12, h⟩ := bd1_e h
        refine zcallVv (As := []) (rest := []) CF hKK (KX2_lay (dC := dC) (dI := dI) (cI := cI) (cZ := cZ) (a := a) hok e12) (cwV 0 hts gX2_placeAll_X2_lay rfl rfl rfl cdX2_lay ⟨Nat.le_of_ble_eq_true rfl, Nat.le_of_ble_eq_true rfl⟩) 11 2 rfl rfl hz rfl hl.1 rfl (Nat.le_of_ble_eq_true rfl) dX2_placeAll_41 ⟨Nat.le_refl _, Nat.le_refl _⟩ (fun H locs hz => ?_)
        refine lv_aload_n hx hb dX2_placeAll_44 rfl (lv_at hl 0 rfl) ?_
        obtain ⟨s14, e15, h⟩ := bd1_e h
        refine zcallVv (As := []) (rest := []) CF hKK (KX2_aimItems (dC := dC) (dI := dI) (cI := cI) (cZ := cZ) (a := a) hok e15) (cwV 0 hts gX2_placeAll_X2_aimItems rfl rfl rfl cdX2_aimItems ⟨Nat.le_of_ble_eq_true rfl, Nat.le_of_ble_eq_true rfl⟩) 11 2 rfl rfl hz rfl hl.1 rfl (Nat.le_of_ble_eq_true rfl) dX2_placeAll_45 ⟨Nat.le_refl _, Nat.le_refl _⟩ (fun H locs hz => ?_)
        refine lv_aload_n hx hb dX2_placeAll_48 rfl (lv_at hl 0 rfl) ?_
        obtain ⟨s17, e18, h⟩ := bd1_e h
        refine zcallVv (As := []) (rest := []) CF hKK (KX2_aimIslands (dC := dC) (dI := dI) (cI := cI) (cZ := cZ) (a := a) hok e18) (cwV 0 hts gX2_placeAll_X2_aimIslands rfl rfl rfl cdX2_aimIslands ⟨Nat.le_of_ble_eq_true rfl, Nat.le_of_ble_eq_true rfl⟩) 11 2 rfl rfl hz rfl hl.1 rfl (Nat.le_of_ble_eq_true rfl) dX2_placeAll_49 ⟨Nat.le_refl _, Nat.le_refl _⟩ (fun H locs hz => ?_)
        refine lv_aload_n hx hb dX2_placeAll_52 rfl (lv_at hl 0 rfl) ?_
        obtain ⟨r19, s20, e21, h⟩ := bd2_e h
        refine zcallVi (As := []) (rest := []) CF hKK (KX2_mendsOne (dC := dC) (dI := dI) (cI := cI) (cZ := cZ) (a := a) hok e21) (cwV 0 hts gX2_placeAll_X2_mendsOne rfl rfl rfl cdX2_mendsOne ⟨Nat.le_of_ble_eq_true rfl, Nat.le_of_ble_eq_true rfl⟩) 11 2 rfl rfl hz rfl hl.1 rfl (Nat.le_of_ble_eq_true rfl) dX2_placeAll_53 ⟨Nat.le_refl _, Nat.le_refl _⟩ (fun H locs hz => ?_)
        refine lv_istore_n (lv' := [(1, .int r19), (0, .ref (a 11))]) hx hb dX2_placeAll_56 rfl hl (by decide) rfl (fun ls hl => ?_)
        refine lv_goto (tgt := 17) hx hb dX2_placeAll_57 (by decide) ?_
        exact hk17 s20 r19 _ _ _ h hz (lv_sub hl [1, 0] rfl)
  have l17 : ∀  (n : Nat), ∀ (σ : St) (y1 : Int32) (H : Heap) (locs : List Loc) (ls : Array Slot), fX2_placeAll_l17  n σ y1 = some σ2 → zz (dC, dI) 30 a (wdC cI cZ a σ) s.heap H locs → lv_has ls 2 [(0, .ref (a 11)), (1, .int y1)] → W p l e rmX2_placeAll s m args below meth c H locs 0 0 Q (F0 m 17 ls []) := by
    intro  n
    induction n with
    | zero => intro σ y1 H locs ls h; exact nomatch h
    | succ n ih => exact s17  (fX2_placeAll_l17  n) ih
  unfold fX2_placeAll at h
  refine lv_aload_n hx hb dX2_placeAll_0 rfl (lv_at hl 0 rfl) ?_
  obtain ⟨s2, e3, h⟩ := bd1_e h
  refine zcallVv (As := []) (rest := []) CF hKK (KX2_clear (dC := dC) (dI := dI) (cI := cI) (cZ := cZ) (a := a) hok e3) (cwV 0 hts gX2_placeAll_X2_clear rfl rfl rfl cdX2_clear ⟨Nat.le_of_ble_eq_true rfl, Nat.le_of_ble_eq_true rfl⟩) 11 2 rfl rfl hz rfl hl.1 rfl (Nat.le_of_ble_eq_true rfl) dX2_placeAll_1 ⟨Nat.le_refl _, Nat.le_refl _⟩ (fun H locs hz => ?_)
  refine lv_aload_n hx hb dX2_placeAll_4 rfl (lv_at hl 0 rfl) ?_
  refine va_get (v := .ref (a 7)) hx hb hts inX2_placeAll_X2 hown hKK.1 hz.1 11 rfl rfl 0 (by decide) (hts _ (List.mem_of_getElem? (i := 1) rfl)) (fun _ h9 => h9) rfl dX2_placeAll_5 ?_
  obtain ⟨r4, e6, h⟩ := bd1_e h
  refine zcallVi (As := []) (rest := []) CF hKK (KX0_size_p (dC := dC) (dI := dI) (cI := cI) (cZ := cZ) (a := a) hok e6) (cwV 0 hts gX2_placeAll_X0_size rfl rfl rfl cdX0_size ⟨Nat.le_of_ble_eq_true rfl, Nat.le_of_ble_eq_true rfl⟩) 7 0 rfl rfl hz rfl hl.1 rfl (Nat.le_of_ble_eq_true rfl) dX2_placeAll_8 ⟨Nat.le_refl _, Nat.le_refl _⟩ (fun H locs hz => ?_)
  refine lv_if_ne (tgt := 15) hx hb dX2_placeAll_11 (by decide) (fun c7 => ?_) (fun c7 => ?_)
  · replace h := ite_f c7 h
    refine lv_iconst (v := (1 : Int32)) hx hb dX2_placeAll_15 (by decide) ?_
    refine lv_istore_n (lv' := [(1, .int (1 : Int32)), (0, .ref (a 11))]) hx hb dX2_placeAll_16 rfl hl (by decide) rfl (fun ls hl => ?_)
    exact l17  FU s2 (1 : Int32) _ _ _ h hz (lv_sub hl [1, 0] rfl)
  · replace h := ite_t c7 h
    exact rt s2 14 _ _ _ dX2_placeAll_14 h hz
def fX2_sizeOf (σ : St) (x1 : Int32) : Option (Int32) :=
  (if x1 < 0 then (some (-1 : Int32)) else ((if (24 : Int32) ≤ x1 then (some (-1 : Int32)) else ((ck (¬ (x1 < 0 ∨ 24 ≤ Int32.toNatClampNeg x1)) <| some ((σ 26) (Int32.toNatClampNeg x1)))))))
abbrev rmX2_sizeOf : Room := { frames := 0, cells := 0, slots := 0, locals := 0 }
set_option maxHeartbeats 4000000 in
set_option maxRecDepth 100000 in
theorem KX2_sizeOf {l : Launch} {dC : Nat → ClassId} {dI : Nat → Nat → Nat} {cI cZ : ClassId} {a : Nat → Nat} {σ : St} {x1 : Int32} {r : Int32} (hok : okA 30 a) (h : fX2_sizeOf σ x1 = some r) (sz : Nat) : Met l yX2_sizeOf wsX2_sizeOf rmX2_sizeOf (Pz (dC, dI) cI cZ (wdC cI cZ a σ) sz [.ref (a 11), .int x1]) (Qzi (dC, dI) 30 a (wdC cI cZ a σ) sz r) 0 0 (aN 30 a sz) := by
  refine Met.ofW (cc := cX2_sizeOf) (maxL := 2) (ret := (some .int)) (by decide) rfl ?_
  intro p e s m args below meth c s₁ B hml hv
  obtain ⟨hav, hsz, hP, hKK⟩ := hv
  have hx := B.exec
  have hb := B.bytes
  have hr := B.returns
  have hts := atoms_spec (ws := wsX2_sizeOf) B.pre
  have hown : s.vm.findClass RX2 = some m.cls := findClass_of_methodNamed B.named
  have hlocks := B.notSynchronized
  have CF : CallFix p m c cX2_sizeOf 2 s args wsX2_sizeOf RX2 := ⟨hx, hb, hml, hown, hts⟩
  have hz : zz (dC, dI) 30 a (wdC cI cZ a σ) s.heap s.heap [] := ⟨hP, va_S.rf⟩
  have hl := lv_entry [.ref (a 11), .int x1] (n := 2) (Nat.le_of_ble_eq_true rfl)
  have hen : entryFrame m args 2 = entryFrame m ([.ref (a 11), .int x1] : List Value).toArray 2 := by rw [hav]
  rw [hen, lg_entry_eq]
  generalize (lg_sl [.ref (a 11), .int x1] ++ List.replicate (2 - (lg_sl [.ref (a 11), .int x1]).length) Slot.unset).toArray = ls at hl ⊢
  have hl : lv_has ls 2 [(0, .ref (a 11)), (1, .int x1)] := hl
  have eR : (headSpec wsX2_sizeOf rmX2_sizeOf).room = rmX2_sizeOf := rfl
  rw [eR]
  have rt : ∀ (v : Int32) (t : St) (pc : Nat) (H : Heap) (locs : List Loc) (ls : Array Slot), decode cX2_sizeOf pc = .ok (.ireturn, 1) → some v = some r → zz (dC, dI) 30 a (wdC cI cZ a σ) s.heap H locs → W p l e rmX2_sizeOf s m args below meth c H locs 0 0 (MQ below (Qzi (dC, dI) 30 a (wdC cI cZ a σ) sz r) args s 0 0 (aN 30 a sz)) (F0 m pc ls [.int v]) := by
    intro v t pc H locs ls hd h hz
    cases h
    exact ziret hsz hx hb hr hlocks hz hd
  generalize (MQ below (Qzi (dC, dI) 30 a (wdC cI cZ a σ) sz r) args s 0 0 (aN 30 a sz)) = Q at rt ⊢
  unfold fX2_sizeOf at h
  refine lv_iload_n hx hb dX2_sizeOf_0 rfl (lv_at hl 1 rfl) ?_
  refine lv_if_lt (tgt := 22) hx hb dX2_sizeOf_1 (by decide) (fun c1 => ?_) (fun c1 => ?_)
  · replace h := ite_t c1 h
    refine lv_iconst (v := (-1 : Int32)) hx hb dX2_sizeOf_22 (by decide) ?_
    exact rt (-1 : Int32) σ 23 _ _ _ dX2_sizeOf_23 h hz
  · replace h := ite_f c1 h
    refine lv_iload_n hx hb dX2_sizeOf_4 rfl (lv_at hl 1 rfl) ?_
    refine lv_aload_n hx hb dX2_sizeOf_5 rfl (lv_at hl 0 rfl) ?_
    refine va_get (v := .ref (a 26)) hx hb hts inX2_sizeOf_X2 hown hKK.1 hz.1 11 rfl rfl 6 (by decide) (hts _ (List.mem_of_getElem? (i := 1) rfl)) (fun _ h9 => h9) rfl dX2_sizeOf_6 ?_
    refine va_alen (v := (24 : Int32)) hx hb hKK.1 hz.1 26 0 rfl rfl rfl dX2_sizeOf_9 ?_
    refine lv_icmp_ge (tgt := 22) hx hb dX2_sizeOf_10 (by decide) (fun c2 => ?_) (fun c2 => ?_)
    · replace h := ite_t c2 h
      refine lv_iconst (v := (-1 : Int32)) hx hb dX2_sizeOf_22 (by decide) ?_
      exact rt (-1 : Int32) σ 23 _ _ _ dX2_sizeOf_23 h hz
    · replace h := ite_f c2 h
      refine lv_aload_n hx hb dX2_sizeOf_13 rfl (lv_at hl 0 rfl) ?_
      refine va_get (v := .ref (a 26)) hx hb hts inX2_sizeOf_X2 hown hKK.1 hz.1 11 rfl rfl 6 (by decide) (hts _ (List.mem_of_getElem? (i := 1) rfl)) (fun _ h9 => h9) rfl dX2_sizeOf_14 ?_
      refine lv_iload_n hx hb dX2_sizeOf_17 rfl (lv_at hl 1 rfl) ?_
      obtain ⟨c3, h⟩ := ck_e h
      refine va_iald (f := (σ 26)) hx hb hKK.1 hz.1 26 0 rfl rfl c3 dX2_sizeOf_18 ?_
      refine lv_goto (tgt := 23) hx hb dX2_sizeOf_19 (by decide) ?_
      exact rt ((σ 26) (Int32.toNatClampNeg x1)) σ 23 _ _ _ dX2_sizeOf_23 h hz
def fX2_loadsOf_s14 (σ : St) (k14 : Int32 → Int32 → Int32 → Option (Int32)) (y2 : Int32) (y3 : Int32) (y4 : Int32) : Option (Int32) :=
  (bd1 (fX0_size_p σ ) fun r4 => (if r4 ≤ y4 then (some y3) else ((bd1 (fX0_kindOf_p σ y4) fun r8 => (if r8 = (1 : Int32) then ((bd1 (fX2_aimOf σ y4) fun r12 => (if r12 = y2 then (k14 y2 (y3 + (1 : Int32)) (y4 + (1 : Int32))) else (k14 y2 y3 (y4 + (1 : Int32)))))) else (k14 y2 y3 (y4 + (1 : Int32))))))))
def fX2_loadsOf_l14 (σ : St)  : Nat → Int32 → Int32 → Int32 → Option (Int32) :=
  itr (fX2_loadsOf_s14 σ ) (fun _ _ _ => none)
def fX2_loadsOf (σ : St) (x1 : Int32) : Option (Int32) :=
  (bd1 (fX4_addressOf_c σ x1) fun r1 => fX2_loadsOf_l14 σ  FU r1 (0 : Int32) (0 : Int32))
abbrev rmX2_loadsOf : Room := { frames := 2, cells := 0, slots := 0, locals := 43 }
set_option maxHeartbeats 4000000 in
set_option maxRecDepth 100000 in
theorem KX2_loadsOf {l : Launch} {dC : Nat → ClassId} {dI : Nat → Nat → Nat} {cI cZ : ClassId} {a : Nat → Nat} {σ : St} {x1 : Int32} {r : Int32} (hok : okA 30 a) (h : fX2_loadsOf σ x1 = some r) (sz : Nat) : Met l yX2_loadsOf wsX2_loadsOf rmX2_loadsOf (Pz (dC, dI) cI cZ (wdC cI cZ a σ) sz [.ref (a 11), .int x1]) (Qzi (dC, dI) 30 a (wdC cI cZ a σ) sz r) 0 0 (aN 30 a sz) := by
  refine Met.ofW (cc := cX2_loadsOf) (maxL := 5) (ret := (some .int)) (by decide) rfl ?_
  intro p e s m args below meth c s₁ B hml hv
  obtain ⟨hav, hsz, hP, hKK⟩ := hv
  have hx := B.exec
  have hb := B.bytes
  have hr := B.returns
  have hts := atoms_spec (ws := wsX2_loadsOf) B.pre
  have hown : s.vm.findClass RX2 = some m.cls := findClass_of_methodNamed B.named
  have hlocks := B.notSynchronized
  have CF : CallFix p m c cX2_loadsOf 5 s args wsX2_loadsOf RX2 := ⟨hx, hb, hml, hown, hts⟩
  have hz : zz (dC, dI) 30 a (wdC cI cZ a σ) s.heap s.heap [] := ⟨hP, va_S.rf⟩
  have hl := lv_entry [.ref (a 11), .int x1] (n := 5) (Nat.le_of_ble_eq_true rfl)
  have hen : entryFrame m args 5 = entryFrame m ([.ref (a 11), .int x1] : List Value).toArray 5 := by rw [hav]
  rw [hen, lg_entry_eq]
  generalize (lg_sl [.ref (a 11), .int x1] ++ List.replicate (5 - (lg_sl [.ref (a 11), .int x1]).length) Slot.unset).toArray = ls at hl ⊢
  have hl : lv_has ls 5 [(0, .ref (a 11)), (1, .int x1)] := hl
  have eR : (headSpec wsX2_loadsOf rmX2_loadsOf).room = rmX2_loadsOf := rfl
  rw [eR]
  have rt : ∀ (v : Int32) (t : St) (pc : Nat) (H : Heap) (locs : List Loc) (ls : Array Slot), decode cX2_loadsOf pc = .ok (.ireturn, 1) → some v = some r → zz (dC, dI) 30 a (wdC cI cZ a σ) s.heap H locs → W p l e rmX2_loadsOf s m args below meth c H locs 0 0 (MQ below (Qzi (dC, dI) 30 a (wdC cI cZ a σ) sz r) args s 0 0 (aN 30 a sz)) (F0 m pc ls [.int v]) := by
    intro v t pc H locs ls hd h hz
    cases h
    exact ziret hsz hx hb hr hlocks hz hd
  generalize (MQ below (Qzi (dC, dI) 30 a (wdC cI cZ a σ) sz r) args s 0 0 (aN 30 a sz)) = Q at rt ⊢
  have s14 : ∀ (k14 : Int32 → Int32 → Int32 → Option (Int32)) (hk14 : (∀ (y2 : Int32) (y3 : Int32) (y4 : Int32) (H : Heap) (locs : List Loc) (ls : Array Slot), k14 y2 y3 y4 = some r → zz (dC, dI) 30 a (wdC cI cZ a σ) s.heap H locs → lv_has ls 5 [(0, .ref (a 11)), (2, .int y2), (3, .int y3), (4, .int y4)] → W p l e rmX2_loadsOf s m args below meth c H locs 0 0 Q (F0 m 14 ls []))) (y2 : Int32) (y3 : Int32) (y4 : Int32) (H : Heap) (locs : List Loc) (ls : Array Slot), fX2_loadsOf_s14 σ k14 y2 y3 y4 = some r → zz (dC, dI) 30 a (wdC cI cZ a σ) s.heap H locs → lv_has ls 5 [(0, .ref (a 11)), (2, .int y2), (3, .int y3), (4, .int y4)] → W p l e rmX2_loadsOf s m args below meth c H locs 0 0 Q (F0 m 14 ls []) := by
    intro k14 hk14 y2 y3 y4 H locs ls h hz hl
    unfold fX2_loadsOf_s14 at h
    refine lv_iload hx hb dX2_loadsOf_14 (lv_at hl 3 rfl) ?_
    refine lv_aload_n hx hb dX2_loadsOf_16 rfl (lv_at hl 0 rfl) ?_
    refine va_get (v := .ref (a 7)) hx hb hts inX2_loadsOf_X2 hown hKK.1 hz.1 11 rfl rfl 0 (by decide) (hts _ (List.mem_of_getElem? (i := 2) rfl)) (fun _ h9 => h9) rfl dX2_loadsOf_17 ?_
    obtain ⟨r4, e6, h⟩ := bd1_e h
    refine zcallVi (As := []) (rest := [.int y4]) CF hKK (KX0_size_p (dC := dC) (dI := dI) (cI := cI) (cZ := cZ) (a := a) hok e6) (cwV 0 hts gX2_loadsOf_X0_size rfl rfl rfl cdX0_size ⟨Nat.le_of_ble_eq_true rfl, Nat.le_of_ble_eq_true rfl⟩) 7 0 rfl rfl hz rfl hl.1 rfl (Nat.le_of_ble_eq_true rfl) dX2_loadsOf_20 ⟨Nat.le_refl _, Nat.le_refl _⟩ (fun H locs hz => ?_)
    refine lv_icmp_ge (tgt := 58) hx hb dX2_loadsOf_23 (by decide) (fun c7 => ?_) (fun c7 => ?_)
    · replace h := ite_t c7 h
      refine lv_iload_n hx hb dX2_loadsOf_58 rfl (lv_at hl 2 rfl) ?_
      exact rt y3 σ 59 _ _ _ dX2_loadsOf_59 h hz
    · replace h := ite_f c7 h
      refine lv_aload_n hx hb dX2_loadsOf_26 rfl (lv_at hl 0 rfl) ?_
      refine va_get (v := .ref (a 7)) hx hb hts inX2_loadsOf_X2 hown hKK.1 hz.1 11 rfl rfl 0 (by decide) (hts _ (List.mem_of_getElem? (i := 2) rfl)) (fun _ h9 => h9) rfl dX2_loadsOf_27 ?_
      refine lv_iload hx hb dX2_loadsOf_30 (lv_at hl 3 rfl) ?_
      obtain ⟨r8, e10, h⟩ := bd1_e h
      refine zcallVi (As := [.int y4]) (rest := []) CF hKK (KX0_kindOf_p (dC := dC) (dI := dI) (cI := cI) (cZ := cZ) (a := a) hok e10) (cwV 1 hts gX2_loadsOf_X0_kindOf rfl rfl rfl cdX0_kindOf ⟨Nat.le_of_ble_eq_true rfl, Nat.le_of_ble_eq_true rfl⟩) 7 0 rfl rfl hz rfl hl.1 rfl (Nat.le_of_ble_eq_true rfl) dX2_loadsOf_32 ⟨Nat.le_refl _, Nat.le_refl _⟩ (fun H locs hz => ?_)
      refine lv_iconst (v := (1 : Int32)) hx hb dX2_loadsOf_35 (by decide) ?_
      refine lv_icmp_ne (tgt := 52) hx hb dX2_loadsOf_36 (by decide) (fun c11 => ?_) (fun c11 => ?_)
      · replace h := ite_f c11 h
        refine lv_iinc (v := (y4 + (1 : Int32))) (lv' := [(4, .int (y4 + (1 : Int32))), (0, .ref (a 11)), (2, .int y2), (3, .int y3)]) hx hb dX2_loadsOf_52 hl (k := 3) rfl rfl (by decide) rfl (fun ls hl => ?_)
        refine lv_goto (tgt := 14) hx hb dX2_loadsOf_55 (by decide) ?_
        exact hk14 y2 y3 (y4 + (1 : Int32)) _ _ _ h hz (lv_sub hl [1, 2, 3, 0] rfl)
      · replace h := ite_t c11 h
        refine lv_aload_n hx hb dX2_loadsOf_39 rfl (lv_at hl 0 rfl) ?_
        refine lv_iload hx hb dX2_loadsOf_40 (lv_at hl 3 rfl) ?_
        obtain ⟨r12, e14, h⟩ := bd1_e h
        refine zcallVi (As := [.int y4]) (rest := []) CF hKK (KX2_aimOf (dC := dC) (dI := dI) (cI := cI) (cZ := cZ) (a := a) hok e14) (cwV 1 hts gX2_loadsOf_X2_aimOf rfl rfl rfl cdX2_aimOf ⟨Nat.le_of_ble_eq_true rfl, Nat.le_of_ble_eq_true rfl⟩) 11 2 rfl rfl hz rfl hl.1 rfl (Nat.le_of_ble_eq_true rfl) dX2_loadsOf_42 ⟨Nat.le_refl _, Nat.le_refl _⟩ (fun H locs hz => ?_)
        refine lv_iload_n hx hb dX2_loadsOf_45 rfl (lv_at hl 1 rfl) ?_
        refine lv_icmp_ne (tgt := 52) hx hb dX2_loadsOf_46 (by decide) (fun c15 => ?_) (fun c15 => ?_)
        · replace h := ite_f c15 h
          refine lv_iinc (v := (y4 + (1 : Int32))) (lv' := [(4, .int (y4 + (1 : Int32))), (0, .ref (a 11)), (2, .int y2), (3, .int y3)]) hx hb dX2_loadsOf_52 hl (k := 3) rfl rfl (by decide) rfl (fun ls hl => ?_)
          refine lv_goto (tgt := 14) hx hb dX2_loadsOf_55 (by decide) ?_
          exact hk14 y2 y3 (y4 + (1 : Int32)) _ _ _ h hz (lv_sub hl [1, 2, 3, 0] rfl)
        · replace h := ite_t c15 h
          refine lv_iinc (v := (y3 + (1 : Int32))) (lv' := [(3, .int (y3 + (1 : Int32))), (0, .ref (a 11)), (2, .int y2), (4, .int y4)]) hx hb dX2_loadsOf_49 hl (k := 2) rfl rfl (by decide) rfl (fun ls hl => ?_)
          refine lv_iinc (v := (y4 + (1 : Int32))) (lv' := [(4, .int (y4 + (1 : Int32))), (3, .int (y3 + (1 : Int32))), (0, .ref (a 11)), (2, .int y2)]) hx hb dX2_loadsOf_52 hl (k := 3) rfl rfl (by decide) rfl (fun ls hl => ?_)
          refine lv_goto (tgt := 14) hx hb dX2_loadsOf_55 (by decide) ?_
          exact hk14 y2 (y3 + (1 : Int32)) (y4 + (1 : Int32)) _ _ _ h hz (lv_sub hl [2, 3, 1, 0] rfl)
  have l14 : ∀  (n : Nat), ∀ (y2 : Int32) (y3 : Int32) (y4 : Int32) (H : Heap) (locs : List Loc) (ls : Array Slot), fX2_loadsOf_l14 σ  n y2 y3 y4 = some r → zz (dC, dI) 30 a (wdC cI cZ a σ) s.heap H locs → lv_has ls 5 [(0, .ref (a 11)), (2, .int y2), (3, .int y3), (4, .int y4)] → W p l e rmX2_loadsOf s m args below meth c H locs 0 0 Q (F0 m 14 ls []) := by
    intro  n
    induction n with
    | zero => intro y2 y3 y4 H locs ls h; exact nomatch h
    | succ n ih => exact s14  (fX2_loadsOf_l14 σ  n) ih
  unfold fX2_loadsOf at h
  refine lv_aload_n hx hb dX2_loadsOf_0 rfl (lv_at hl 0 rfl) ?_
  refine va_get (v := .ref (a 18)) hx hb hts inX2_loadsOf_X2 hown hKK.1 hz.1 11 rfl rfl 3 (by decide) (hts _ (List.mem_of_getElem? (i := 1) rfl)) (fun _ h9 => h9) rfl dX2_loadsOf_1 ?_
  refine lv_iload_n hx hb dX2_loadsOf_4 rfl (lv_at hl 1 rfl) ?_
  obtain ⟨r1, e3, h⟩ := bd1_e h
  refine zcallVi (As := [.int x1]) (rest := []) CF hKK (KX4_addressOf_c (dC := dC) (dI := dI) (cI := cI) (cZ := cZ) (a := a) hok e3) (cwV 1 hts gX2_loadsOf_X4_addressOf rfl rfl rfl cdX4_addressOf ⟨Nat.le_of_ble_eq_true rfl, Nat.le_of_ble_eq_true rfl⟩) 18 4 rfl rfl hz rfl hl.1 rfl (Nat.le_of_ble_eq_true rfl) dX2_loadsOf_5 ⟨Nat.le_refl _, Nat.le_refl _⟩ (fun H locs hz => ?_)
  refine lv_istore_n (lv' := [(2, .int r1), (0, .ref (a 11)), (1, .int x1)]) hx hb dX2_loadsOf_8 rfl hl (by decide) rfl (fun ls hl => ?_)
  refine lv_iconst (v := (0 : Int32)) hx hb dX2_loadsOf_9 (by decide) ?_
  refine lv_istore_n (lv' := [(3, .int (0 : Int32)), (2, .int r1), (0, .ref (a 11)), (1, .int x1)]) hx hb dX2_loadsOf_10 rfl hl (by decide) rfl (fun ls hl => ?_)
  refine lv_iconst (v := (0 : Int32)) hx hb dX2_loadsOf_11 (by decide) ?_
  refine lv_istore (lv' := [(4, .int (0 : Int32)), (3, .int (0 : Int32)), (2, .int r1), (0, .ref (a 11)), (1, .int x1)]) hx hb dX2_loadsOf_12 hl (by decide) rfl (fun ls hl => ?_)
  exact l14  FU r1 (0 : Int32) (0 : Int32) _ _ _ h hz (lv_sub hl [3, 2, 1, 0] rfl)
