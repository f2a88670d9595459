def fX6_goesTo (σ : St) (x1 : Int32) : Option (Int32) :=
  (ck (¬ (x1 < 0 ∨ 24 ≤ Int32.toNatClampNeg x1)) <| (if ((σ 2) (Int32.toNatClampNeg x1)) = (1 : Int32) then ((bd1 (fX6_constantFor σ x1) fun r15 => (if r15 = (-1 : Int32) then (some (-1 : Int32)) else ((ck (¬ (r15 < 0 ∨ 16 ≤ Int32.toNatClampNeg r15)) <| some ((σ 14) (Int32.toNatClampNeg r15))))))) else ((ck (¬ (x1 < 0 ∨ 24 ≤ Int32.toNatClampNeg x1)) <| (if ((σ 2) (Int32.toNatClampNeg x1)) = (2 : Int32) then ((ck (¬ (x1 < 0 ∨ 24 ≤ Int32.toNatClampNeg x1)) <| (if ((σ 7) (Int32.toNatClampNeg x1)) = 0 then ((bd1 (fX6_shortGoes σ x1) fun r7 => some r7)) else ((ck (¬ (x1 < 0 ∨ 24 ≤ Int32.toNatClampNeg x1)) <| (ck (¬ (x1 < 0 ∨ 24 ≤ Int32.toNatClampNeg x1)) <| (bd1 (fX6_goesFrom σ ((σ 12) (Int32.toNatClampNeg x1)) ((σ 3) (Int32.toNatClampNeg x1))) fun r12 => some r12))))))) else (some (-1 : Int32)))))))
abbrev rmX6_goesTo : Room := { frames := 3, cells := 0, slots := 0, locals := 70 }
set_option maxHeartbeats 4000000 in
set_option maxRecDepth 100000 in
theorem KX6_goesTo {l : Launch} {dC : Nat → ClassId} {dI : Nat → Nat → Nat} {cI cZ : ClassId} {a : Nat → Nat} {hh : Int64} {σ : St} {x1 : Int32} {r : Int32} (hok : okA 18 a) (h : fX6_goesTo σ x1 = some r) (sz : Nat) : Met l yX6_goesTo wsX6_goesTo rmX6_goesTo (Pz (dC, dI) cI cZ (wdM cI cZ a hh σ) sz [.ref (a 0), .int x1]) (Qzi (dC, dI) 18 a (wdM cI cZ a hh σ) sz r) 0 0 (aN 18 a sz) := by
  refine Met.ofW (cc := cX6_goesTo) (maxL := 3) (ret := (some .int)) (by decide) rfl ?_
  intro p e s m args below meth c s₁ B hml hv
  obtain ⟨hav, hsz, hP, hKK⟩ := hv
  have hx := B.exec
  have hb := B.bytes
  have hr := B.returns
  have hts := atoms_spec (ws := wsX6_goesTo) B.pre
  have hown : s.vm.findClass RX6 = some m.cls := findClass_of_methodNamed B.named
  have hlocks := B.notSynchronized
  have CF : CallFix p m c cX6_goesTo 3 s args wsX6_goesTo RX6 := ⟨hx, hb, hml, hown, hts⟩
  have hz : zz (dC, dI) 18 a (wdM cI cZ a hh σ) s.heap s.heap [] := ⟨hP, va_S.rf⟩
  have hl := lv_entry [.ref (a 0), .int x1] (n := 3) (Nat.le_of_ble_eq_true rfl)
  have hen : entryFrame m args 3 = entryFrame m ([.ref (a 0), .int x1] : List Value).toArray 3 := by rw [hav]
  rw [hen, lg_entry_eq]
  generalize (lg_sl [.ref (a 0), .int x1] ++ List.replicate (3 - (lg_sl [.ref (a 0), .int x1]).length) Slot.unset).toArray = ls at hl ⊢
  have hl : lv_has ls 3 [(0, .ref (a 0)), (1, .int x1)] := hl
  have eR : (headSpec wsX6_goesTo rmX6_goesTo).room = rmX6_goesTo := rfl
  rw [eR]
  have rt : ∀ (v : Int32) (t : St) (pc : Nat) (H : Heap) (locs : List Loc) (ls : Array Slot), decode cX6_goesTo pc = .ok (.ireturn, 1) → some v = some r → zz (dC, dI) 18 a (wdM cI cZ a hh σ) s.heap H locs → W p l e rmX6_goesTo s m args below meth c H locs 0 0 (MQ below (Qzi (dC, dI) 18 a (wdM cI cZ a hh σ) sz r) args s 0 0 (aN 18 a sz)) (F0 m pc ls [.int v]) := by
    intro v t pc H locs ls hd h hz
    cases h
    exact ziret hsz hx hb hr hlocks hz hd
  generalize (MQ below (Qzi (dC, dI) 18 a (wdM cI cZ a hh σ) sz r) args s 0 0 (aN 18 a sz)) = Q at rt ⊢
  unfold fX6_goesTo at h
  refine lv_aload_n hx hb dX6_goesTo_0 rfl (lv_at hl 0 rfl) ?_
  refine va_get (v := .ref (a 2)) hx hb hts inX6_goesTo_X6 hown hKK.1 hz.1 0 rfl rfl 3 (by decide) (hts _ (List.mem_of_getElem? (i := 1) rfl)) (fun _ h9 => h9) rfl dX6_goesTo_1 ?_
  refine lv_iload_n hx hb dX6_goesTo_4 rfl (lv_at hl 1 rfl) ?_
  obtain ⟨c1, h⟩ := ck_e h
  refine va_iald (f := (σ 2)) hx hb hKK.1 hz.1 2 0 rfl rfl c1 dX6_goesTo_5 ?_
  refine lv_iconst (v := (1 : Int32)) hx hb dX6_goesTo_6 (by decide) ?_
  refine lv_icmp_ne (tgt := 32) hx hb dX6_goesTo_7 (by decide) (fun c2 => ?_) (fun c2 => ?_)
  · replace h := ite_f c2 h
    refine lv_aload_n hx hb dX6_goesTo_32 rfl (lv_at hl 0 rfl) ?_
    refine va_get (v := .ref (a 2)) hx hb hts inX6_goesTo_X6 hown hKK.1 hz.1 0 rfl rfl 3 (by decide) (hts _ (List.mem_of_getElem? (i := 1) rfl)) (fun _ h9 => h9) rfl dX6_goesTo_33 ?_
    refine lv_iload_n hx hb dX6_goesTo_36 rfl (lv_at hl 1 rfl) ?_
    obtain ⟨c3, h⟩ := ck_e h
    refine va_iald (f := (σ 2)) hx hb hKK.1 hz.1 2 0 rfl rfl c3 dX6_goesTo_37 ?_
    refine lv_iconst (v := (2 : Int32)) hx hb dX6_goesTo_38 (by decide) ?_
    refine lv_icmp_eq (tgt := 44) hx hb dX6_goesTo_39 (by decide) (fun c4 => ?_) (fun c4 => ?_)
    · replace h := ite_t c4 h
      refine lv_aload_n hx hb dX6_goesTo_44 rfl (lv_at hl 0 rfl) ?_
      refine va_get (v := .ref (a 7)) hx hb hts inX6_goesTo_X6 hown hKK.1 hz.1 0 rfl rfl 14 (by decide) (hts _ (List.mem_of_getElem? (i := 3) rfl)) (fun _ h9 => h9) rfl dX6_goesTo_45 ?_
      refine lv_iload_n hx hb dX6_goesTo_48 rfl (lv_at hl 1 rfl) ?_
      obtain ⟨c5, h⟩ := ck_e h
      refine va_zald (f := (σ 7)) hx hb hKK.1 hz.1 7 1 rfl rfl c5 dX6_goesTo_49 ?_
      refine lv_if_eq (tgt := 72) hx hb dX6_goesTo_50 (by decide) (fun c6 => ?_) (fun c6 => ?_)
      · replace h := ite_t c6 h
        refine lv_aload_n hx hb dX6_goesTo_72 rfl (lv_at hl 0 rfl) ?_
        refine lv_iload_n hx hb dX6_goesTo_73 rfl (lv_at hl 1 rfl) ?_
        obtain ⟨r7, e9, h⟩ := bd1_e h
        refine zcallVi (As := [.int x1]) (rest := []) CF hKK (KX6_shortGoes (dC := dC) (dI := dI) (cI := cI) (cZ := cZ) (a := a) hok e9) (cwV 1 hts gX6_goesTo_X6_shortGoes rfl rfl rfl cdX6_shortGoes ⟨Nat.le_of_ble_eq_true rfl, Nat.le_of_ble_eq_true rfl⟩) 0 6 rfl rfl hz rfl hl.1 rfl (Nat.le_of_ble_eq_true rfl) dX6_goesTo_74 ⟨Nat.le_refl _, Nat.le_refl _⟩ (fun H locs hz => ?_)
        exact rt r7 σ 77 _ _ _ dX6_goesTo_77 h hz
      · replace h := ite_f c6 h
        refine lv_aload_n hx hb dX6_goesTo_53 rfl (lv_at hl 0 rfl) ?_
        refine lv_aload_n hx hb dX6_goesTo_54 rfl (lv_at hl 0 rfl) ?_
        refine va_get (v := .ref (a 12)) hx hb hts inX6_goesTo_X6 hown hKK.1 hz.1 0 rfl rfl 21 (by decide) (hts _ (List.mem_of_getElem? (i := 4) rfl)) (fun _ h9 => h9) rfl dX6_goesTo_55 ?_
        refine lv_iload_n hx hb dX6_goesTo_58 rfl (lv_at hl 1 rfl) ?_
        obtain ⟨c10, h⟩ := ck_e h
        refine va_iald (f := (σ 12)) hx hb hKK.1 hz.1 12 0 rfl rfl c10 dX6_goesTo_59 ?_
        refine lv_aload_n hx hb dX6_goesTo_60 rfl (lv_at hl 0 rfl) ?_
        refine va_get (v := .ref (a 3)) hx hb hts inX6_goesTo_X6 hown hKK.1 hz.1 0 rfl rfl 4 (by decide) (hts _ (List.mem_of_getElem? (i := 5) rfl)) (fun _ h9 => h9) rfl dX6_goesTo_61 ?_
        refine lv_iload_n hx hb dX6_goesTo_64 rfl (lv_at hl 1 rfl) ?_
        obtain ⟨c11, h⟩ := ck_e h
        refine va_iald (f := (σ 3)) hx hb hKK.1 hz.1 3 0 rfl rfl c11 dX6_goesTo_65 ?_
        obtain ⟨r12, e14, h⟩ := bd1_e h
        refine zcallVi (As := [.int ((σ 12) (Int32.toNatClampNeg x1)), .int ((σ 3) (Int32.toNatClampNeg x1))]) (rest := []) CF hKK (KX6_goesFrom (dC := dC) (dI := dI) (cI := cI) (cZ := cZ) (a := a) hok e14) (cwV 2 hts gX6_goesTo_X6_goesFrom rfl rfl rfl cdX6_goesFrom ⟨Nat.le_of_ble_eq_true rfl, Nat.le_of_ble_eq_true rfl⟩) 0 6 rfl rfl hz rfl hl.1 rfl (Nat.le_of_ble_eq_true rfl) dX6_goesTo_66 ⟨Nat.le_refl _, Nat.le_refl _⟩ (fun H locs hz => ?_)
        refine lv_goto (tgt := 77) hx hb dX6_goesTo_69 (by decide) ?_
        exact rt r12 σ 77 _ _ _ dX6_goesTo_77 h hz
    · replace h := ite_f c4 h
      refine lv_iconst (v := (-1 : Int32)) hx hb dX6_goesTo_42 (by decide) ?_
      exact rt (-1 : Int32) σ 43 _ _ _ dX6_goesTo_43 h hz
  · replace h := ite_t c2 h
    refine lv_aload_n hx hb dX6_goesTo_10 rfl (lv_at hl 0 rfl) ?_
    refine lv_iload_n hx hb dX6_goesTo_11 rfl (lv_at hl 1 rfl) ?_
    obtain ⟨r15, e17, h⟩ := bd1_e h
    refine zcallVi (As := [.int x1]) (rest := []) CF hKK (KX6_constantFor (dC := dC) (dI := dI) (cI := cI) (cZ := cZ) (a := a) hok e17) (cwV 1 hts gX6_goesTo_X6_constantFor rfl rfl rfl cdX6_constantFor ⟨Nat.le_of_ble_eq_true rfl, Nat.le_of_ble_eq_true rfl⟩) 0 6 rfl rfl hz rfl hl.1 rfl (Nat.le_of_ble_eq_true rfl) dX6_goesTo_12 ⟨Nat.le_refl _, Nat.le_refl _⟩ (fun H locs hz => ?_)
    refine lv_istore_n (lv' := [(2, .int r15), (0, .ref (a 0)), (1, .int x1)]) hx hb dX6_goesTo_15 rfl hl (by decide) rfl (fun ls hl => ?_)
    refine lv_iload_n hx hb dX6_goesTo_16 rfl (lv_at hl 0 rfl) ?_
    refine lv_iconst (v := (-1 : Int32)) hx hb dX6_goesTo_17 (by decide) ?_
    refine lv_icmp_ne (tgt := 25) hx hb dX6_goesTo_18 (by decide) (fun c18 => ?_) (fun c18 => ?_)
    · replace h := ite_f c18 h
      refine lv_aload_n hx hb dX6_goesTo_25 rfl (lv_at hl 1 rfl) ?_
      refine va_get (v := .ref (a 14)) hx hb hts inX6_goesTo_X6 hown hKK.1 hz.1 0 rfl rfl 23 (by decide) (hts _ (List.mem_of_getElem? (i := 2) rfl)) (fun _ h9 => h9) rfl dX6_goesTo_26 ?_
      refine lv_iload_n hx hb dX6_goesTo_29 rfl (lv_at hl 0 rfl) ?_
      obtain ⟨c19, h⟩ := ck_e h
      refine va_iald (f := (σ 14)) hx hb hKK.1 hz.1 14 0 rfl rfl c19 dX6_goesTo_30 ?_
      exact rt ((σ 14) (Int32.toNatClampNeg r15)) σ 31 _ _ _ dX6_goesTo_31 h hz
    · replace h := ite_t c18 h
      refine lv_iconst (v := (-1 : Int32)) hx hb dX6_goesTo_21 (by decide) ?_
      refine lv_goto (tgt := 31) hx hb dX6_goesTo_22 (by decide) ?_
      exact rt (-1 : Int32) σ 31 _ _ _ dX6_goesTo_31 h hz
def fX6_firstStuck_b52 (σ : St) (k10 : Int32 → Int32 → Int32 → Int32 → Option (Int32)) (y1 : Int32) (y2 : Int32) (y3 : Int32) (y4 : Int32) (t0 : Int32) : Option (Int32) :=
  (if t0 = 0 then (k10 y1 y2 y3 (y4 + (-1 : Int32))) else (k10 y1 y2 y4 (y4 + (-1 : Int32))))
def fX6_firstStuck_b51 (σ : St) (k10 : Int32 → Int32 → Int32 → Int32 → Option (Int32)) (y1 : Int32) (y2 : Int32) (y3 : Int32) (y4 : Int32) : Option (Int32) :=
  fX6_firstStuck_b52 σ k10 y1 y2 y3 y4 (0 : Int32)
def fX6_firstStuck_s10 (σ : St) (k10 : Int32 → Int32 → Int32 → Int32 → Option (Int32)) (y1 : Int32) (y2 : Int32) (y3 : Int32) (y4 : Int32) : Option (Int32) :=
  (if y4 < 0 then (some y3) else ((ck (¬ (y4 < 0 ∨ 24 ≤ Int32.toNatClampNeg y4)) <| (if ((σ 2) (Int32.toNatClampNeg y4)) = y1 then ((ck (¬ (y4 < 0 ∨ 24 ≤ Int32.toNatClampNeg y4)) <| (if ((σ 7) (Int32.toNatClampNeg y4)) = y2 then ((bd1 (fX6_goesTo σ y4) fun r7 => (if r7 = (-1 : Int32) then (fX6_firstStuck_b52 σ k10 y1 y2 y3 y4 (1 : Int32)) else (fX6_firstStuck_b51 σ k10 y1 y2 y3 y4)))) else (fX6_firstStuck_b51 σ k10 y1 y2 y3 y4)))) else (fX6_firstStuck_b51 σ k10 y1 y2 y3 y4)))))
def fX6_firstStuck_l10 (σ : St)  : Nat → Int32 → Int32 → Int32 → Int32 → Option (Int32) :=
  itr (fX6_firstStuck_s10 σ ) (fun _ _ _ _ => none)
def fX6_firstStuck (σ : St) (x1 : Int32) (x2 : Int32) : Option (Int32) :=
  fX6_firstStuck_l10 σ  FU x1 x2 (-1 : Int32) ((σ 41 0) - (1 : Int32))
abbrev rmX6_firstStuck : Room := { frames := 4, cells := 0, slots := 0, locals := 92 }
set_option maxHeartbeats 4000000 in
set_option maxRecDepth 100000 in
theorem KX6_firstStuck {l : Launch} {dC : Nat → ClassId} {dI : Nat → Nat → Nat} {cI cZ : ClassId} {a : Nat → Nat} {hh : Int64} {σ : St} {x1 : Int32} {x2 : Int32} {r : Int32} (hok : okA 18 a) (h : fX6_firstStuck σ x1 x2 = some r) (sz : Nat) : Met l yX6_firstStuck wsX6_firstStuck rmX6_firstStuck (Pz (dC, dI) cI cZ (wdM cI cZ a hh σ) sz [.ref (a 0), .int x1, .int x2]) (Qzi (dC, dI) 18 a (wdM cI cZ a hh σ) sz r) 0 0 (aN 18 a sz) := by
  refine Met.ofW (cc := cX6_firstStuck) (maxL := 6) (ret := (some .int)) (by decide) rfl ?_
  intro p e s m args below meth c s₁ B hml hv
  obtain ⟨hav, hsz, hP, hKK⟩ := hv
  have hx := B.exec
  have hb := B.bytes
  have hr := B.returns
  have hts := atoms_spec (ws := wsX6_firstStuck) B.pre
  have hown : s.vm.findClass RX6 = some m.cls := findClass_of_methodNamed B.named
  have hlocks := B.notSynchronized
  have CF : CallFix p m c cX6_firstStuck 6 s args wsX6_firstStuck RX6 := ⟨hx, hb, hml, hown, hts⟩
  have hz : zz (dC, dI) 18 a (wdM cI cZ a hh σ) s.heap s.heap [] := ⟨hP, va_S.rf⟩
  have hl := lv_entry [.ref (a 0), .int x1, .int x2] (n := 6) (Nat.le_of_ble_eq_true rfl)
  have hen : entryFrame m args 6 = entryFrame m ([.ref (a 0), .int x1, .int x2] : List Value).toArray 6 := by rw [hav]
  rw [hen, lg_entry_eq]
  generalize (lg_sl [.ref (a 0), .int x1, .int x2] ++ List.replicate (6 - (lg_sl [.ref (a 0), .int x1, .int x2]).length) Slot.unset).toArray = ls at hl ⊢
  have hl : lv_has ls 6 [(0, .ref (a 0)), (1, .int x1), (2, .int x2)] := hl
  have eR : (headSpec wsX6_firstStuck rmX6_firstStuck).room = rmX6_firstStuck := rfl
  rw [eR]
  have rt : ∀ (v : Int32) (t : St) (pc : Nat) (H : Heap) (locs : List Loc) (ls : Array Slot), decode cX6_firstStuck pc = .ok (.ireturn, 1) → some v = some r → zz (dC, dI) 18 a (wdM cI cZ a hh σ) s.heap H locs → W p l e rmX6_firstStuck s m args below meth c H locs 0 0 (MQ below (Qzi (dC, dI) 18 a (wdM cI cZ a hh σ) sz r) args s 0 0 (aN 18 a sz)) (F0 m pc ls [.int v]) := by
    intro v t pc H locs ls hd h hz
    cases h
    exact ziret hsz hx hb hr hlocks hz hd
  generalize (MQ below (Qzi (dC, dI) 18 a (wdM cI cZ a hh σ) sz r) args s 0 0 (aN 18 a sz)) = Q at rt ⊢
  have b52 : ∀ (k10 : Int32 → Int32 → Int32 → Int32 → Option (Int32)) (hk10 : (∀ (y1 : Int32) (y2 : Int32) (y3 : Int32) (y4 : Int32) (H : Heap) (locs : List Loc) (ls : Array Slot), k10 y1 y2 y3 y4 = some r → zz (dC, dI) 18 a (wdM cI cZ a hh σ) s.heap H locs → lv_has ls 6 [(0, .ref (a 0)), (1, .int y1), (2, .int y2), (3, .int y3), (4, .int y4)] → W p l e rmX6_firstStuck s m args below meth c H locs 0 0 Q (F0 m 10 ls []))) (y1 : Int32) (y2 : Int32) (y3 : Int32) (y4 : Int32) (t0 : Int32) (H : Heap) (locs : List Loc) (ls : Array Slot), fX6_firstStuck_b52 σ k10 y1 y2 y3 y4 t0 = some r → zz (dC, dI) 18 a (wdM cI cZ a hh σ) s.heap H locs → lv_has ls 6 [(0, .ref (a 0)), (1, .int y1), (2, .int y2), (3, .int y3), (4, .int y4)] → W p l e rmX6_firstStuck s m args below meth c H locs 0 0 Q (F0 m 52 ls [.int t0]) := by
    intro k10 hk10 y1 y2 y3 y4 t0 H locs ls h hz hl
    unfold fX6_firstStuck_b52 at h
    refine lv_istore (lv' := [(5, .int t0), (0, .ref (a 0)), (1, .int y1), (2, .int y2), (3, .int y3), (4, .int y4)]) hx hb dX6_firstStuck_52 hl (by decide) rfl (fun ls hl => ?_)
    refine lv_iload hx hb dX6_firstStuck_54 (lv_at hl 0 rfl) ?_
    refine lv_if_eq (tgt := 64) hx hb dX6_firstStuck_56 (by decide) (fun c4 => ?_) (fun c4 => ?_)
    · replace h := ite_t c4 h
      refine lv_iload_n hx hb dX6_firstStuck_64 rfl (lv_at hl 4 rfl) ?_
      refine lv_istore_n (lv' := [(3, .int y3), (5, .int t0), (0, .ref (a 0)), (1, .int y1), (2, .int y2), (4, .int y4)]) hx hb dX6_firstStuck_65 rfl hl (by decide) rfl (fun ls hl => ?_)
      refine lv_iinc (v := (y4 + (-1 : Int32))) (lv' := [(4, .int (y4 + (-1 : Int32))), (3, .int y3), (5, .int t0), (0, .ref (a 0)), (1, .int y1), (2, .int y2)]) hx hb dX6_firstStuck_66 hl (k := 5) rfl rfl (by decide) rfl (fun ls hl => ?_)
      refine lv_goto (tgt := 10) hx hb dX6_firstStuck_69 (by decide) ?_
      exact hk10 y1 y2 y3 (y4 + (-1 : Int32)) _ _ _ h hz (lv_sub hl [3, 4, 5, 1, 0] rfl)
    · replace h := ite_f c4 h
      refine lv_iload hx hb dX6_firstStuck_59 (lv_at hl 5 rfl) ?_
      refine lv_goto (tgt := 65) hx hb dX6_firstStuck_61 (by decide) ?_
      refine lv_istore_n (lv' := [(3, .int y4), (5, .int t0), (0, .ref (a 0)), (1, .int y1), (2, .int y2), (4, .int y4)]) hx hb dX6_firstStuck_65 rfl hl (by decide) rfl (fun ls hl => ?_)
      refine lv_iinc (v := (y4 + (-1 : Int32))) (lv' := [(4, .int (y4 + (-1 : Int32))), (3, .int y4), (5, .int t0), (0, .ref (a 0)), (1, .int y1), (2, .int y2)]) hx hb dX6_firstStuck_66 hl (k := 5) rfl rfl (by decide) rfl (fun ls hl => ?_)
      refine lv_goto (tgt := 10) hx hb dX6_firstStuck_69 (by decide) ?_
      exact hk10 y1 y2 y4 (y4 + (-1 : Int32)) _ _ _ h hz (lv_sub hl [3, 4, 5, 1, 0] rfl)
  have b51 : ∀ (k10 : Int32 → Int32 → Int32 → Int32 → Option (Int32)) (hk10 : (∀ (y1 : Int32) (y2 : Int32) (y3 : Int32) (y4 : Int32) (H : Heap) (locs : List Loc) (ls : Array Slot), k10 y1 y2 y3 y4 = some r → zz (dC, dI) 18 a (wdM cI cZ a hh σ) s.heap H locs → lv_has ls 6 [(0, .ref (a 0)), (1, .int y1), (2, .int y2), (3, .int y3), (4, .int y4)] → W p l e rmX6_firstStuck s m args below meth c H locs 0 0 Q (F0 m 10 ls []))) (y1 : Int32) (y2 : Int32) (y3 : Int32) (y4 : Int32) (H : Heap) (locs : List Loc) (ls : Array Slot), fX6_firstStuck_b51 σ k10 y1 y2 y3 y4 = some r → zz (dC, dI) 18 a (wdM cI cZ a hh σ) s.heap H locs → lv_has ls 6 [(0, .ref (a 0)), (1, .int y1), (2, .int y2), (3, .int y3), (4, .int y4)] → W p l e rmX6_firstStuck s m args below meth c H locs 0 0 Q (F0 m 51 ls []) := by
    intro k10 hk10 y1 y2 y3 y4 H locs ls h hz hl
    unfold fX6_firstStuck_b51 at h
    refine lv_iconst (v := (0 : Int32)) hx hb dX6_firstStuck_51 (by decide) ?_
    exact b52 k10 hk10 y1 y2 y3 y4 (0 : Int32) _ _ _ h hz (lv_sub hl [0, 1, 2, 3, 4] rfl)
  have s10 : ∀ (k10 : Int32 → Int32 → Int32 → Int32 → Option (Int32)) (hk10 : (∀ (y1 : Int32) (y2 : Int32) (y3 : Int32) (y4 : Int32) (H : Heap) (locs : List Loc) (ls : Array Slot), k10 y1 y2 y3 y4 = some r → zz (dC, dI) 18 a (wdM cI cZ a hh σ) s.heap H locs → lv_has ls 6 [(0, .ref (a 0)), (1, .int y1), (2, .int y2), (3, .int y3), (4, .int y4)] → W p l e rmX6_firstStuck s m args below meth c H locs 0 0 Q (F0 m 10 ls []))) (y1 : Int32) (y2 : Int32) (y3 : Int32) (y4 : Int32) (H : Heap) (locs : List Loc) (ls : Array Slot), fX6_firstStuck_s10 σ k10 y1 y2 y3 y4 = some r → zz (dC, dI) 18 a (wdM cI cZ a hh σ) s.heap H locs → lv_has ls 6 [(0, .ref (a 0)), (1, .int y1), (2, .int y2), (3, .int y3), (4, .int y4)] → W p l e rmX6_firstStuck s m args below meth c H locs 0 0 Q (F0 m 10 ls []) := by
    intro k10 hk10 y1 y2 y3 y4 H locs ls h hz hl
    unfold fX6_firstStuck_s10 at h
    refine lv_iload hx hb dX6_firstStuck_10 (lv_at hl 4 rfl) ?_
    refine lv_if_lt (tgt := 72) hx hb dX6_firstStuck_12 (by decide) (fun c1 => ?_) (fun c1 => ?_)
    · replace h := ite_t c1 h
      refine lv_iload_n hx hb dX6_firstStuck_72 rfl (lv_at hl 3 rfl) ?_
      exact rt y3 σ 73 _ _ _ dX6_firstStuck_73 h hz
    · replace h := ite_f c1 h
      refine lv_aload_n hx hb dX6_firstStuck_15 rfl (lv_at hl 0 rfl) ?_
      refine va_get (v := .ref (a 2)) hx hb hts inX6_firstStuck_X6 hown hKK.1 hz.1 0 rfl rfl 3 (by decide) (hts _ (List.mem_of_getElem? (i := 2) rfl)) (fun _ h9 => h9) rfl dX6_firstStuck_16 ?_
      refine lv_iload hx hb dX6_firstStuck_19 (lv_at hl 4 rfl) ?_
      obtain ⟨c2, h⟩ := ck_e h
      refine va_iald (f := (σ 2)) hx hb hKK.1 hz.1 2 0 rfl rfl c2 dX6_firstStuck_21 ?_
      refine lv_iload_n hx hb dX6_firstStuck_22 rfl (lv_at hl 1 rfl) ?_
      refine lv_icmp_ne (tgt := 51) hx hb dX6_firstStuck_23 (by decide) (fun c3 => ?_) (fun c3 => ?_)
      · replace h := ite_f c3 h
        exact b51 k10 hk10 y1 y2 y3 y4 _ _ _ h hz (lv_sub hl [0, 1, 2, 3, 4] rfl)
      · replace h := ite_t c3 h
        refine lv_aload_n hx hb dX6_firstStuck_26 rfl (lv_at hl 0 rfl) ?_
        refine va_get (v := .ref (a 7)) hx hb hts inX6_firstStuck_X6 hown hKK.1 hz.1 0 rfl rfl 14 (by decide) (hts _ (List.mem_of_getElem? (i := 3) rfl)) (fun _ h9 => h9) rfl dX6_firstStuck_27 ?_
        refine lv_iload hx hb dX6_firstStuck_30 (lv_at hl 4 rfl) ?_
        obtain ⟨c5, h⟩ := ck_e h
        refine va_zald (f := (σ 7)) hx hb hKK.1 hz.1 7 1 rfl rfl c5 dX6_firstStuck_32 ?_
        refine lv_iload_n hx hb dX6_firstStuck_33 rfl (lv_at hl 2 rfl) ?_
        refine lv_icmp_ne (tgt := 51) hx hb dX6_firstStuck_34 (by decide) (fun c6 => ?_) (fun c6 => ?_)
        · replace h := ite_f c6 h
          exact b51 k10 hk10 y1 y2 y3 y4 _ _ _ h hz (lv_sub hl [0, 1, 2, 3, 4] rfl)
        · replace h := ite_t c6 h
          refine lv_aload_n hx hb dX6_firstStuck_37 rfl (lv_at hl 0 rfl) ?_
          refine lv_iload hx hb dX6_firstStuck_38 (lv_at hl 4 rfl) ?_
          obtain ⟨r7, e9, h⟩ := bd1_e h
          refine zcallVi (As := [.int y4]) (rest := []) CF hKK (KX6_goesTo (dC := dC) (dI := dI) (cI := cI) (cZ := cZ) (a := a) hok e9) (cwV 1 hts gX6_firstStuck_X6_goesTo rfl rfl rfl cdX6_goesTo ⟨Nat.le_of_ble_eq_true rfl, Nat.le_of_ble_eq_true rfl⟩) 0 6 rfl rfl hz rfl hl.1 rfl (Nat.le_of_ble_eq_true rfl) dX6_firstStuck_40 ⟨Nat.le_refl _, Nat.le_refl _⟩ (fun H locs hz => ?_)
          refine lv_iconst (v := (-1 : Int32)) hx hb dX6_firstStuck_43 (by decide) ?_
          refine lv_icmp_ne (tgt := 51) hx hb dX6_firstStuck_44 (by decide) (fun c10 => ?_) (fun c10 => ?_)
          · replace h := ite_f c10 h
            exact b51 k10 hk10 y1 y2 y3 y4 _ _ _ h hz (lv_sub hl [0, 1, 2, 3, 4] rfl)
          · replace h := ite_t c10 h
            refine lv_iconst (v := (1 : Int32)) hx hb dX6_firstStuck_47 (by decide) ?_
            refine lv_goto (tgt := 52) hx hb dX6_firstStuck_48 (by decide) ?_
            exact b52 k10 hk10 y1 y2 y3 y4 (1 : Int32) _ _ _ h hz (lv_sub hl [0, 1, 2, 3, 4] rfl)
  have l10 : ∀  (n : Nat), ∀ (y1 : Int32) (y2 : Int32) (y3 : Int32) (y4 : Int32) (H : Heap) (locs : List Loc) (ls : Array Slot), fX6_firstStuck_l10 σ  n y1 y2 y3 y4 = some r → zz (dC, dI) 18 a (wdM cI cZ a hh σ) s.heap H locs → lv_has ls 6 [(0, .ref (a 0)), (1, .int y1), (2, .int y2), (3, .int y3), (4, .int y4)] → W p l e rmX6_firstStuck s m args below meth c H locs 0 0 Q (F0 m 10 ls []) := by
    intro  n
    induction n with
    | zero => intro y1 y2 y3 y4 H locs ls h; exact nomatch h
    | succ n ih => exact s10  (fX6_firstStuck_l10 σ  n) ih
  unfold fX6_firstStuck at h
  refine lv_iconst (v := (-1 : Int32)) hx hb dX6_firstStuck_0 (by decide) ?_
  refine lv_istore_n (lv' := [(3, .int (-1 : Int32)), (0, .ref (a 0)), (1, .int x1), (2, .int x2)]) hx hb dX6_firstStuck_1 rfl hl (by decide) rfl (fun ls hl => ?_)
  refine lv_aload_n hx hb dX6_firstStuck_2 rfl (lv_at hl 1 rfl) ?_
  refine va_get (v := .int (σ 41 0)) hx hb hts inX6_firstStuck_X6 hown hKK.1 hz.1 0 rfl rfl 2 (by decide) (hts _ (List.mem_of_getElem? (i := 1) rfl)) (fun _ h9 => h9) rfl dX6_firstStuck_3 ?_
  refine lv_iconst (v := (1 : Int32)) hx hb dX6_firstStuck_6 (by decide) ?_
  refine lv_isub hx hb dX6_firstStuck_7 ?_
  refine lv_istore (lv' := [(4, .int ((σ 41 0) - (1 : Int32))), (3, .int (-1 : Int32)), (0, .ref (a 0)), (1, .int x1), (2, .int x2)]) hx hb dX6_firstStuck_8 hl (by decide) rfl (fun ls hl => ?_)
  exact l10  FU x1 x2 (-1 : Int32) ((σ 41 0) - (1 : Int32)) _ _ _ h hz (lv_sub hl [2, 3, 4, 1, 0] rfl)
def fX6_fails (σ : St) (x1 : Int32) (x2 : Int32) : Option (Int32 × St) :=
  some ((0 : Int32), (si (si (si σ 53 (0 : Int32)) 54 x1) 55 x2))
abbrev rmX6_fails : Room := { frames := 0, cells := 0, slots := 0, locals := 0 }
set_option maxHeartbeats 4000000 in
set_option maxRecDepth 100000 in
theorem KX6_fails {l : Launch} {dC : Nat → ClassId} {dI : Nat → Nat → Nat} {cI cZ : ClassId} {a : Nat → Nat} {hh : Int64} {σ : St} {x1 : Int32} {x2 : Int32} {r : Int32} {σ2 : St} (hok : okA 18 a) (h : fX6_fails σ x1 x2 = some (r, σ2)) (sz : Nat) : Met l yX6_fails wsX6_fails rmX6_fails (Pz (dC, dI) cI cZ (wdM cI cZ a hh σ) sz [.ref (a 0), .int x1, .int x2]) (Qzi (dC, dI) 18 a (wdM cI cZ a hh σ2) sz r) 0 0 (aN 18 a sz) := by
  refine Met.ofW (cc := cX6_fails) (maxL := 3) (ret := (some .boolean)) (by decide) rfl ?_
  intro p e s m args below meth c s₁ B hml hv
  obtain ⟨hav, hsz, hP, hKK⟩ := hv
  have hx := B.exec
  have hb := B.bytes
  have hr := B.returns
  have hts := atoms_spec (ws := wsX6_fails) B.pre
  have hown : s.vm.findClass RX6 = some m.cls := findClass_of_methodNamed B.named
  have hlocks := B.notSynchronized
  have CF : CallFix p m c cX6_fails 3 s args wsX6_fails RX6 := ⟨hx, hb, hml, hown, hts⟩
  have hz : zz (dC, dI) 18 a (wdM cI cZ a hh σ) s.heap s.heap [] := ⟨hP, va_S.rf⟩
  have hl := lv_entry [.ref (a 0), .int x1, .int x2] (n := 3) (Nat.le_of_ble_eq_true rfl)
  have hen : entryFrame m args 3 = entryFrame m ([.ref (a 0), .int x1, .int x2] : List Value).toArray 3 := by rw [hav]
  rw [hen, lg_entry_eq]
  generalize (lg_sl [.ref (a 0), .int x1, .int x2] ++ List.replicate (3 - (lg_sl [.ref (a 0), .int x1, .int x2]).length) Slot.unset).toArray = ls at hl ⊢
  have hl : lv_has ls 3 [(0, .ref (a 0)), (1, .int x1), (2, .int x2)] := hl
  have eR : (headSpec wsX6_fails rmX6_fails).room = rmX6_fails := rfl
  rw [eR]
  have rt : ∀ (v : Int32) (t : St) (pc : Nat) (H : Heap) (locs : List Loc) (ls : Array Slot), decode cX6_fails pc = .ok (.ireturn, 1) → some (v, t) = some (r, σ2) → zz (dC, dI) 18 a (wdM cI cZ a hh t) s.heap H locs → (v = 0 ∨ v = 1) → W p l e rmX6_fails s m args below meth c H locs 0 0 (MQ below (Qzi (dC, dI) 18 a (wdM cI cZ a hh σ2) sz r) args s 0 0 (aN 18 a sz)) (F0 m pc ls [.int v]) := by
    intro v t pc H locs ls hd h hz hv
    cases h
    exact zzret hsz hx hb hr hlocks hv hz hd
  generalize (MQ below (Qzi (dC, dI) 18 a (wdM cI cZ a hh σ2) sz r) args s 0 0 (aN 18 a sz)) = Q at rt ⊢
  unfold fX6_fails at h
  refine lv_aload_n hx hb dX6_fails_0 rfl (lv_at hl 0 rfl) ?_
  refine lv_iconst (v := (0 : Int32)) hx hb dX6_fails_1 (by decide) ?_
  refine zput (ty := .boolean) (w' := wdM cI cZ a hh (si σ 53 (0 : Int32))) hx hb hts inX6_fails_X6 tyX6 tyX6_ok nmX6 hown hKK hok wkM hz 0 rfl rfl 30 (by decide) (hts _ (List.mem_of_getElem? (i := 1) rfl)) (fun _ h9 => h9) rfl rfl (by decide) (by decide) (Nat.le_of_ble_eq_true rfl) setMi_53 dX6_fails_2 (fun H locs hz => ?_)
  refine lv_aload_n hx hb dX6_fails_5 rfl (lv_at hl 0 rfl) ?_
  refine lv_iload_n hx hb dX6_fails_6 rfl (lv_at hl 1 rfl) ?_
  refine zput (ty := .int) (w' := wdM cI cZ a hh (si (si σ 53 (0 : Int32)) 54 x1)) hx hb hts inX6_fails_X6 tyX6 tyX6_ok nmX6 hown hKK hok wkM hz 0 rfl rfl 31 (by decide) (hts _ (List.mem_of_getElem? (i := 2) rfl)) (fun _ h9 => h9) rfl rfl rfl rfl (Nat.le_of_ble_eq_true rfl) setMi_54 dX6_fails_7 (fun H locs hz => ?_)
  refine lv_aload_n hx hb dX6_fails_10 rfl (lv_at hl 0 rfl) ?_
  refine lv_iload_n hx hb dX6_fails_11 rfl (lv_at hl 2 rfl) ?_
  refine zput (ty := .int) (w' := wdM cI cZ a hh (si (si (si σ 53 (0 : Int32)) 54 x1) 55 x2)) hx hb hts inX6_fails_X6 tyX6 tyX6_ok nmX6 hown hKK hok wkM hz 0 rfl rfl 32 (by decide) (hts _ (List.mem_of_getElem? (i := 3) rfl)) (fun _ h9 => h9) rfl rfl rfl rfl (Nat.le_of_ble_eq_true rfl) setMi_55 dX6_fails_12 (fun H locs hz => ?_)
  refine lv_iconst (v := (0 : Int32)) hx hb dX6_fails_15 (by decide) ?_
  exact rt (0 : Int32) (si (si (si σ 53 (0 : Int32)) 54 x1) 55 x2) 16 _ _ _ dX6_fails_16 h hz (Or.inl rfl)
def fX6_putConstant_b72  (σ : St) (y1 : Int32) : Option (Int32 × St) :=
  (bd2 (fX6_fails σ (1 : Int32) y1) fun r3 s4 => (ck (r3 = 0 ∨ r3 = 1) <| some (r3, s4)))
def fX6_putConstant_s6 (k6 : St → Int32 → Int32 → Int32 → Option (Int32 × St)) (σ : St) (y1 : Int32) (y2 : Int32) (y3 : Int32) : Option (Int32 × St) :=
  (if (σ 41 0) ≤ y3 then ((if y2 = (-1 : Int32) then (fX6_putConstant_b72  σ y1) else ((if (σ 49 0) = (16 : Int32) then (fX6_putConstant_b72  σ y1) else ((ck (¬ (y1 < 0 ∨ 24 ≤ Int32.toNatClampNeg y1)) <| (ck (¬ ((σ 49 0) < 0 ∨ 16 ≤ Int32.toNatClampNeg (σ 49 0))) <| (ck (¬ ((σ 49 0) < 0 ∨ 16 ≤ Int32.toNatClampNeg (σ 49 0))) <| some ((1 : Int32), (si (sa (sa σ 10 (Int32.toNatClampNeg (σ 49 0)) ((σ 3) (Int32.toNatClampNeg y1))) 11 (Int32.toNatClampNeg (σ 49 0)) y2) 49 ((σ 49 0) + (1 : Int32)))))))))))) else ((ck (¬ (y3 < 0 ∨ 24 ≤ Int32.toNatClampNeg y3)) <| (if ((σ 2) (Int32.toNatClampNeg y3)) = (5 : Int32) then ((ck (¬ (y3 < 0 ∨ 24 ≤ Int32.toNatClampNeg y3)) <| (ck (¬ (y1 < 0 ∨ 24 ≤ Int32.toNatClampNeg y1)) <| (if ((σ 4) (Int32.toNatClampNeg (2 : Int32))) < (((σ 16) (Int32.toNatClampNeg y3)) - ((σ 12) (Int32.toNatClampNeg y1))) then (k6 σ y1 y2 (y3 + (1 : Int32))) else (k6 σ y1 y3 (y3 + (1 : Int32))))))) else (k6 σ y1 y2 (y3 + (1 : Int32)))))))
def fX6_putConstant_l6  : Nat → St → Int32 → Int32 → Int32 → Option (Int32 × St) :=
  itr (fX6_putConstant_s6 ) (fun _ _ _ _ => none)
def fX6_putConstant (σ : St) (x1 : Int32) : Option (Int32 × St) :=
  fX6_putConstant_l6  FU σ x1 (-1 : Int32) (x1 + (1 : Int32))
abbrev rmX6_putConstant : Room := { frames := 1, cells := 0, slots := 0, locals := 22 }
set_option maxHeartbeats 4000000 in
set_option maxRecDepth 100000 in
theorem KX6_putConstant {l : Launch} {dC : Nat → ClassId} {dI : Nat → Nat → Nat} {cI cZ : ClassId} {a : Nat → Nat} {hh : Int64} {σ : St} {x1 : Int32} {r : Int32} {σ2 : St} (hok : okA 18 a) (h : fX6_putConstant σ x1 = some (r, σ2)) (sz : Nat) : Met l yX6_putConstant wsX6_putConstant rmX6_putConstant (Pz (dC, dI) cI cZ (wdM cI cZ a hh σ) sz [.ref (a 0), .int x1]) (Qzi (dC, dI) 18 a (wdM cI cZ a hh σ2) sz r) 0 0 (aN 18 a sz) := by
  refine Met.ofW (cc := cX6_putConstant) (maxL := 4) (ret := (some .boolean)) (by decide) rfl ?_
  intro p e s m args below meth c s₁ B hml hv
  obtain ⟨hav, hsz, hP, hKK⟩ := hv
  have hx := B.exec
  have hb := B.bytes
  have hr := B.returns
  have hts := atoms_spec (ws := wsX6_putConstant) B.pre
  have hown : s.vm.findClass RX6 = some m.cls := findClass_of_methodNamed B.named
  have hlocks := B.notSynchronized
  have CF : CallFix p m c cX6_putConstant 4 s args wsX6_putConstant RX6 := ⟨hx, hb, hml, hown, hts⟩
  have hz : zz (dC, dI) 18 a (wdM cI cZ a hh σ) s.heap s.heap [] := ⟨hP, va_S.rf⟩
  have hl := lv_entry [.ref (a 0), .int x1] (n := 4) (Nat.le_of_ble_eq_true rfl)
  have hen : entryFrame m args 4 = entryFrame m ([.ref (a 0), .int x1] : List Value).toArray 4 := by rw [hav]
  rw [hen, lg_entry_eq]
  generalize (lg_sl [.ref (a 0), .int x1] ++ List.replicate (4 - (lg_sl [.ref (a 0), .int x1]).length) Slot.unset).toArray = ls at hl ⊢
  have hl : lv_has ls 4 [(0, .ref (a 0)), (1, .int x1)] := hl
  have eR : (headSpec wsX6_putConstant rmX6_putConstant).room = rmX6_putConstant := rfl
  rw [eR]
  have rt : ∀ (v : Int32) (t : St) (pc : Nat) (H : Heap) (locs : List Loc) (ls : Array Slot), decode cX6_putConstant pc = .ok (.ireturn, 1) → some (v, t) = some (r, σ2) → zz (dC, dI) 18 a (wdM cI cZ a hh t) s.heap H locs → (v = 0 ∨ v = 1) → W p l e rmX6_putConstant s m args below meth c H locs 0 0 (MQ below (Qzi (dC, dI) 18 a (wdM cI cZ a hh σ2) sz r) args s 0 0 (aN 18 a sz)) (F0 m pc ls [.int v]) := by
    intro v t pc H locs ls hd h hz hv
    cases h
    exact zzret hsz hx hb hr hlocks hv hz hd
  generalize (MQ below (Qzi (dC, dI) 18 a (wdM cI cZ a hh σ2) sz r) args s 0 0 (aN 18 a sz)) = Q at rt ⊢
  have b72 : ∀  (σ : St) (y1 : Int32) (H : Heap) (locs : List Loc) (ls : Array Slot), fX6_putConstant_b72  σ y1 = some (r, σ2) → zz (dC, dI) 18 a (wdM cI cZ a hh σ) s.heap H locs → lv_has ls 4 [(0, .ref (a 0)), (1, .int y1)] → W p l e rmX6_putConstant s m args below meth c H locs 0 0 Q (F0 m 72 ls []) := by
    intro  σ y1 H locs ls h hz hl
    unfold fX6_putConstant_b72 at h
    refine lv_aload_n hx hb dX6_putConstant_72 rfl (lv_at hl 0 rfl) ?_
    refine lv_iconst (v := (1 : Int32)) hx hb dX6_putConstant_73 (by decide) ?_
    refine lv_iload_n hx hb dX6_putConstant_74 rfl (lv_at hl 1 rfl) ?_
    obtain ⟨r3, s4, e5, h⟩ := bd2_e h
    refine zcallVi (As := [.int (1 : Int32), .int y1]) (rest := []) CF hKK (KX6_fails (dC := dC) (dI := dI) (cI := cI) (cZ := cZ) (a := a) hok e5) (cwV 2 hts gX6_putConstant_X6_fails rfl rfl rfl cdX6_fails ⟨Nat.le_of_ble_eq_true rfl, Nat.le_of_ble_eq_true rfl⟩) 0 6 rfl rfl hz rfl hl.1 rfl (Nat.le_of_ble_eq_true rfl) dX6_putConstant_75 ⟨Nat.le_refl _, Nat.le_refl _⟩ (fun H locs hz => ?_)
    obtain ⟨c6, h⟩ := ck_e h
    exact rt r3 s4 78 _ _ _ dX6_putConstant_78 h hz c6
  have s6 : ∀ (k6 : St → Int32 → Int32 → Int32 → Option (Int32 × St)) (hk6 : (∀ (σ : St) (y1 : Int32) (y2 : Int32) (y3 : Int32) (H : Heap) (locs : List Loc) (ls : Array Slot), k6 σ y1 y2 y3 = some (r, σ2) → zz (dC, dI) 18 a (wdM cI cZ a hh σ) s.heap H locs → lv_has ls 4 [(0, .ref (a 0)), (1, .int y1), (2, .int y2), (3, .int y3)] → W p l e rmX6_putConstant s m args below meth c H locs 0 0 Q (F0 m 6 ls []))) (σ : St) (y1 : Int32) (y2 : Int32) (y3 : Int32) (H : Heap) (locs : List Loc) (ls : Array Slot), fX6_putConstant_s6 k6 σ y1 y2 y3 = some (r, σ2) → zz (dC, dI) 18 a (wdM cI cZ a hh σ) s.heap H locs → lv_has ls 4 [(0, .ref (a 0)), (1, .int y1), (2, .int y2), (3, .int y3)] → W p l e rmX6_putConstant s m args below meth c H locs 0 0 Q (F0 m 6 ls []) := by
    intro k6 hk6 σ y1 y2 y3 H locs ls h hz hl
    unfold fX6_putConstant_s6 at h
    refine lv_iload_n hx hb dX6_putConstant_6 rfl (lv_at hl 3 rfl) ?_
    refine lv_aload_n hx hb dX6_putConstant_7 rfl (lv_at hl 0 rfl) ?_
    refine va_get (v := .int (σ 41 0)) hx hb hts inX6_putConstant_X6 hown hKK.1 hz.1 0 rfl rfl 2 (by decide) (hts _ (List.mem_of_getElem? (i := 1) rfl)) (fun _ h9 => h9) rfl dX6_putConstant_8 ?_
    refine lv_icmp_ge (tgt := 58) hx hb dX6_putConstant_11 (by decide) (fun c1 => ?_) (fun c1 => ?_)
    · replace h := ite_t c1 h
      refine lv_iload_n hx hb dX6_putConstant_58 rfl (lv_at hl 2 rfl) ?_
      refine lv_iconst (v := (-1 : Int32)) hx hb dX6_putConstant_59 (by decide) ?_
      refine lv_icmp_eq (tgt := 72) hx hb dX6_putConstant_60 (by decide) (fun c2 => ?_) (fun c2 => ?_)
      · replace h := ite_t c2 h
        exact b72  σ y1 _ _ _ h hz (lv_sub hl [0, 1] rfl)
      · replace h := ite_f c2 h
        refine lv_aload_n hx hb dX6_putConstant_63 rfl (lv_at hl 0 rfl) ?_
        refine va_get (v := .int (σ 49 0)) hx hb hts inX6_putConstant_X6 hown hKK.1 hz.1 0 rfl rfl 18 (by decide) (hts _ (List.mem_of_getElem? (i := 6) rfl)) (fun _ h9 => h9) rfl dX6_putConstant_64 ?_
        refine lv_bipush (v := (16 : Int32)) hx hb dX6_putConstant_67 (by decide) ?_
        refine lv_icmp_ne (tgt := 79) hx hb dX6_putConstant_69 (by decide) (fun c7 => ?_) (fun c7 => ?_)
        · replace h := ite_f c7 h
          refine lv_aload_n hx hb dX6_putConstant_79 rfl (lv_at hl 0 rfl) ?_
          refine va_get (v := .ref (a 10)) hx hb hts inX6_putConstant_X6 hown hKK.1 hz.1 0 rfl rfl 19 (by decide) (hts _ (List.mem_of_getElem? (i := 7) rfl)) (fun _ h9 => h9) rfl dX6_putConstant_80 ?_
          refine lv_aload_n hx hb dX6_putConstant_83 rfl (lv_at hl 0 rfl) ?_
          refine va_get (v := .int (σ 49 0)) hx hb hts inX6_putConstant_X6 hown hKK.1 hz.1 0 rfl rfl 18 (by decide) (hts _ (List.mem_of_getElem? (i := 6) rfl)) (fun _ h9 => h9) rfl dX6_putConstant_84 ?_
          refine lv_aload_n hx hb dX6_putConstant_87 rfl (lv_at hl 0 rfl) ?_
          refine va_get (v := .ref (a 3)) hx hb hts inX6_putConstant_X6 hown hKK.1 hz.1 0 rfl rfl 4 (by decide) (hts _ (List.mem_of_getElem? (i := 8) rfl)) (fun _ h9 => h9) rfl dX6_putConstant_88 ?_
          refine lv_iload_n hx hb dX6_putConstant_91 rfl (lv_at hl 1 rfl) ?_
          obtain ⟨c8, h⟩ := ck_e h
          refine va_iald (f := (σ 3)) hx hb hKK.1 hz.1 3 0 rfl rfl c8 dX6_putConstant_92 ?_
          obtain ⟨c9, h⟩ := ck_e h
          refine ziast (f := σ 10) (w' := wdM cI cZ a hh (sa σ 10 (Int32.toNatClampNeg (σ 49 0)) ((σ 3) (Int32.toNatClampNeg y1)))) hx hb hKK hok wkM hz 10 rfl c9 setMa_10 dX6_putConstant_93 (fun H locs hz => ?_)
          refine lv_aload_n hx hb dX6_putConstant_94 rfl (lv_at hl 0 rfl) ?_
          refine va_get (v := .ref (a 11)) hx hb hts inX6_putConstant_X6 hown hKK.1 hz.1 0 rfl rfl 20 (by decide) (hts _ (List.mem_of_getElem? (i := 9) rfl)) (fun _ h9 => h9) rfl dX6_putConstant_95 ?_
          refine lv_aload_n hx hb dX6_putConstant_98 rfl (lv_at hl 0 rfl) ?_
          refine va_get (v := .int (σ 49 0)) hx hb hts inX6_putConstant_X6 hown hKK.1 hz.1 0 rfl rfl 18 (by decide) (hts _ (List.mem_of_getElem? (i := 6) rfl)) (fun _ h9 => h9) rfl dX6_putConstant_99 ?_
          refine lv_iload_n hx hb dX6_putConstant_102 rfl (lv_at hl 2 rfl) ?_
          obtain ⟨c10, h⟩ := ck_e h
          refine ziast (f := (sa σ 10 (Int32.toNatClampNeg (σ 49 0)) ((σ 3) (Int32.toNatClampNeg y1))) 11) (w' := wdM cI cZ a hh (sa (sa σ 10 (Int32.toNatClampNeg (σ 49 0)) ((σ 3) (Int32.toNatClampNeg y1))) 11 (Int32.toNatClampNeg (σ 49 0)) y2)) hx hb hKK hok wkM hz 11 rfl c10 setMa_11 dX6_putConstant_103 (fun H locs hz => ?_)
          refine lv_aload_n hx hb dX6_putConstant_104 rfl (lv_at hl 0 rfl) ?_
          refine lv_dup hx hb dX6_putConstant_105 rfl ?_
          refine va_get (v := .int (σ 49 0)) hx hb hts inX6_putConstant_X6 hown hKK.1 hz.1 0 rfl rfl 18 (by decide) (hts _ (List.mem_of_getElem? (i := 6) rfl)) (fun _ h9 => h9) rfl dX6_putConstant_106 ?_
          refine lv_iconst (v := (1 : Int32)) hx hb dX6_putConstant_109 (by decide) ?_
          refine lv_iadd hx hb dX6_putConstant_110 ?_
          refine zput (ty := .int) (w' := wdM cI cZ a hh (si (sa (sa σ 10 (Int32.toNatClampNeg (σ 49 0)) ((σ 3) (Int32.toNatClampNeg y1))) 11 (Int32.toNatClampNeg (σ 49 0)) y2) 49 ((σ 49 0) + (1 : Int32)))) hx hb hts inX6_putConstant_X6 tyX6 tyX6_ok nmX6 hown hKK hok wkM hz 0 rfl rfl 18 (by decide) (hts _ (List.mem_of_getElem? (i := 6) rfl)) (fun _ h9 => h9) rfl rfl rfl rfl (Nat.le_of_ble_eq_true rfl) setMi_49 dX6_putConstant_111 (fun H locs hz => ?_)
          refine lv_iconst (v := (1 : Int32)) hx hb dX6_putConstant_114 (by decide) ?_
          exact rt (1 : Int32) (si (sa (sa σ 10 (Int32.toNatClampNeg (σ 49 0)) ((σ 3) (Int32.toNatClampNeg y1))) 11 (Int32.toNatClampNeg (σ 49 0)) y2) 49 ((σ 49 0) + (1 : Int32))) 115 _ _ _ dX6_putConstant_115 h hz (Or.inr rfl)
        · replace h := ite_t c7 h
          exact b72  σ y1 _ _ _ h hz (lv_sub hl [0, 1] rfl)
    · replace h := ite_f c1 h
      refine lv_aload_n hx hb dX6_putConstant_14 rfl (lv_at hl 0 rfl) ?_
      refine va_get (v := .ref (a 2)) hx hb hts inX6_putConstant_X6 hown hKK.1 hz.1 0 rfl rfl 3 (by decide) (hts _ (List.mem_of_getElem? (i := 2) rfl)) (fun _ h9 => h9) rfl dX6_putConstant_15 ?_
      refine lv_iload_n hx hb dX6_putConstant_18 rfl (lv_at hl 3 rfl) ?_
      obtain ⟨c11, h⟩ := ck_e h
      refine va_iald (f := (σ 2)) hx hb hKK.1 hz.1 2 0 rfl rfl c11 dX6_putConstant_19 ?_
      refine lv_iconst (v := (5 : Int32)) hx hb dX6_putConstant_20 (by decide) ?_
      refine lv_icmp_ne (tgt := 50) hx hb dX6_putConstant_21 (by decide) (fun c12 => ?_) (fun c12 => ?_)
      · replace h := ite_f c12 h
        refine lv_iload_n hx hb dX6_putConstant_50 rfl (lv_at hl 2 rfl) ?_
        refine lv_istore_n (lv' := [(2, .int y2), (0, .ref (a 0)), (1, .int y1), (3, .int y3)]) hx hb dX6_putConstant_51 rfl hl (by decide) rfl (fun ls hl => ?_)
        refine lv_iinc (v := (y3 + (1 : Int32))) (lv' := [(3, .int (y3 + (1 : Int32))), (2, .int y2), (0, .ref (a 0)), (1, .int y1)]) hx hb dX6_putConstant_52 hl (k := 3) rfl rfl (by decide) rfl (fun ls hl => ?_)
        refine lv_goto (tgt := 6) hx hb dX6_putConstant_55 (by decide) ?_
        exact hk6 σ y1 y2 (y3 + (1 : Int32)) _ _ _ h hz (lv_sub hl [2, 3, 1, 0] rfl)
      · replace h := ite_t c12 h
        refine lv_aload_n hx hb dX6_putConstant_24 rfl (lv_at hl 0 rfl) ?_
        refine va_get (v := .ref (a 16)) hx hb hts inX6_putConstant_X6 hown hKK.1 hz.1 0 rfl rfl 25 (by decide) (hts _ (List.mem_of_getElem? (i := 3) rfl)) (fun _ h9 => h9) rfl dX6_putConstant_25 ?_
        refine lv_iload_n hx hb dX6_putConstant_28 rfl (lv_at hl 3 rfl) ?_
        obtain ⟨c13, h⟩ := ck_e h
        refine va_iald (f := (σ 16)) hx hb hKK.1 hz.1 16 0 rfl rfl c13 dX6_putConstant_29 ?_
        refine lv_aload_n hx hb dX6_putConstant_30 rfl (lv_at hl 0 rfl) ?_
        refine va_get (v := .ref (a 12)) hx hb hts inX6_putConstant_X6 hown hKK.1 hz.1 0 rfl rfl 21 (by decide) (hts _ (List.mem_of_getElem? (i := 4) rfl)) (fun _ h9 => h9) rfl dX6_putConstant_31 ?_
        refine lv_iload_n hx hb dX6_putConstant_34 rfl (lv_at hl 1 rfl) ?_
        obtain ⟨c14, h⟩ := ck_e h
        refine va_iald (f := (σ 12)) hx hb hKK.1 hz.1 12 0 rfl rfl c14 dX6_putConstant_35 ?_
        refine lv_isub hx hb dX6_putConstant_36 ?_
        refine lv_aload_n hx hb dX6_putConstant_37 rfl (lv_at hl 0 rfl) ?_
        refine va_get (v := .ref (a 4)) hx hb hts inX6_putConstant_X6 hown hKK.1 hz.1 0 rfl rfl 7 (by decide) (hts _ (List.mem_of_getElem? (i := 5) rfl)) (fun _ h9 => h9) rfl dX6_putConstant_38 ?_
        refine lv_iconst (v := (2 : Int32)) hx hb dX6_putConstant_41 (by decide) ?_
        refine va_iald (f := (σ 4)) hx hb hKK.1 hz.1 4 0 rfl rfl (by decide : vp_inD (2 : Int32) 3) dX6_putConstant_42 ?_
        refine lv_icmp_gt (tgt := 50) hx hb dX6_putConstant_43 (by decide) (fun c15 => ?_) (fun c15 => ?_)
        · replace h := ite_t c15 h
          refine lv_iload_n hx hb dX6_putConstant_50 rfl (lv_at hl 2 rfl) ?_
          refine lv_istore_n (lv' := [(2, .int y2), (0, .ref (a 0)), (1, .int y1), (3, .int y3)]) hx hb dX6_putConstant_51 rfl hl (by decide) rfl (fun ls hl => ?_)
          refine lv_iinc (v := (y3 + (1 : Int32))) (lv' := [(3, .int (y3 + (1 : Int32))), (2, .int y2), (0, .ref (a 0)), (1, .int y1)]) hx hb dX6_putConstant_52 hl (k := 3) rfl rfl (by decide) rfl (fun ls hl => ?_)
          refine lv_goto (tgt := 6) hx hb dX6_putConstant_55 (by decide) ?_
          exact hk6 σ y1 y2 (y3 + (1 : Int32)) _ _ _ h hz (lv_sub hl [2, 3, 1, 0] rfl)
        · replace h := ite_f c15 h
          refine lv_iload_n hx hb dX6_putConstant_46 rfl (lv_at hl 3 rfl) ?_
          refine lv_goto (tgt := 51) hx hb dX6_putConstant_47 (by decide) ?_
          refine lv_istore_n (lv' := [(2, .int y3), (0, .ref (a 0)), (1, .int y1), (3, .int y3)]) hx hb dX6_putConstant_51 rfl hl (by decide) rfl (fun ls hl => ?_)
          refine lv_iinc (v := (y3 + (1 : Int32))) (lv' := [(3, .int (y3 + (1 : Int32))), (2, .int y3), (0, .ref (a 0)), (1, .int y1)]) hx hb dX6_putConstant_52 hl (k := 3) rfl rfl (by decide) rfl (fun ls hl => ?_)
          refine lv_goto (tgt := 6) hx hb dX6_putConstant_55 (by decide) ?_
          exact hk6 σ y1 y3 (y3 + (1 : Int32)) _ _ _ h hz (lv_sub hl [2, 3, 1, 0] rfl)
  have l6 : ∀  (n : Nat), ∀ (σ : St) (y1 : Int32) (y2 : Int32) (y3 : Int32) (H : Heap) (locs : List Loc) (ls : Array Slot), fX6_putConstant_l6  n σ y1 y2 y3 = some (r, σ2) → zz (dC, dI) 18 a (wdM cI cZ a hh σ) s.heap H locs → lv_has ls 4 [(0, .ref (a 0)), (1, .int y1), (2, .int y2), (3, .int y3)] → W p l e rmX6_putConstant s m args below meth c H locs 0 0 Q (F0 m 6 ls []) := by
    intro  n
    induction n with
    | zero => intro σ y1 y2 y3 H locs ls h; exact nomatch h
    | succ n ih => exact s6  (fX6_putConstant_l6  n) ih
  unfold fX6_putConstant at h
  refine lv_iconst (v := (-1 : Int32)) hx hb dX6_putConstant_0 (by decide) ?_
  refine lv_istore_n (lv' := [(2, .int (-1 : Int32)), (0, .ref (a 0)), (1, .int x1)]) hx hb dX6_putConstant_1 rfl hl (by decide) rfl (fun ls hl => ?_)
  refine lv_iload_n hx hb dX6_putConstant_2 rfl (lv_at hl 2 rfl) ?_
  refine lv_iconst (v := (1 : Int32)) hx hb dX6_putConstant_3 (by decide) ?_
  refine lv_iadd hx hb dX6_putConstant_4 ?_
  refine lv_istore_n (lv' := [(3, .int (x1 + (1 : Int32))), (2, .int (-1 : Int32)), (0, .ref (a 0)), (1, .int x1)]) hx hb dX6_putConstant_5 rfl hl (by decide) rfl (fun ls hl => ?_)
  exact l6  FU σ x1 (-1 : Int32) (x1 + (1 : Int32)) _ _ _ h hz (lv_sub hl [2, 3, 1, 0] rfl)
def fX6_gapFor_s17 (σ : St) (k17 : Int32 → Int32 → Int32 → Int32 → Int32 → Option (Int32)) (y1 : Int32) (y2 : Int32) (y3 : Int32) (y4 : Int32) (y5 : Int32) : Option (Int32) :=
  (if (σ 41 0) ≤ y5 then (some y3) else ((ck (¬ (y5 < 0 ∨ 24 ≤ Int32.toNatClampNeg y5)) <| (if ((σ 2) (Int32.toNatClampNeg y5)) = (5 : Int32) then ((ck (¬ (y5 < 0 ∨ 24 ≤ Int32.toNatClampNeg y5)) <| (bd1 (fX6_apart σ ((σ 15) (Int32.toNatClampNeg y5)) y1) fun r9 => (if ((σ 4) (Int32.toNatClampNeg (1 : Int32))) < r9 then (k17 y1 y2 y3 y4 (y5 + (1 : Int32))) else ((ck (¬ (y5 < 0 ∨ 24 ≤ Int32.toNatClampNeg y5)) <| (ck (¬ (y2 < 0 ∨ 8 ≤ Int32.toNatClampNeg y2)) <| (bd1 (fX6_apart σ ((σ 15) (Int32.toNatClampNeg y5)) ((σ 17) (Int32.toNatClampNeg y2))) fun r15 => (if y4 ≤ r15 then (k17 y1 y2 y3 y4 (y5 + (1 : Int32))) else ((ck (¬ (y5 < 0 ∨ 24 ≤ Int32.toNatClampNeg y5)) <| (ck (¬ (y2 < 0 ∨ 8 ≤ Int32.toNatClampNeg y2)) <| (bd1 (fX6_apart σ ((σ 15) (Int32.toNatClampNeg y5)) ((σ 17) (Int32.toNatClampNeg y2))) fun r21 => k17 y1 y2 y5 r21 (y5 + (1 : Int32))))))))))))))) else (k17 y1 y2 y3 y4 (y5 + (1 : Int32)))))))
def fX6_gapFor_l17 (σ : St)  : Nat → Int32 → Int32 → Int32 → Int32 → Int32 → Option (Int32) :=
  itr (fX6_gapFor_s17 σ ) (fun _ _ _ _ _ => none)
def fX6_gapFor (σ : St) (x1 : Int32) (x2 : Int32) : Option (Int32) :=
  (ck (¬ (x2 < 0 ∨ 8 ≤ Int32.toNatClampNeg x2)) <| (bd1 (fX6_apart σ x1 ((σ 17) (Int32.toNatClampNeg x2))) fun r2 => fX6_gapFor_l17 σ  FU x1 x2 (-1 : Int32) r2 (0 : Int32)))
abbrev rmX6_gapFor : Room := { frames := 1, cells := 0, slots := 0, locals := 21 }
set_option maxHeartbeats 4000000 in
set_option maxRecDepth 100000 in
theorem KX6_gapFor {l : Launch} {dC : Nat → ClassId} {dI : Nat → Nat → Nat} {cI cZ : ClassId} {a : Nat → Nat} {hh : Int64} {σ : St} {x1 : Int32} {x2 : Int32} {r : Int32} (hok : okA 18 a) (h : fX6_gapFor σ x1 x2 = some r) (sz : Nat) : Met l yX6_gapFor wsX6_gapFor rmX6_gapFor (Pz (dC, dI) cI cZ (wdM cI cZ a hh σ) sz [.ref (a 0), .int x1, .int x2]) (Qzi (dC, dI) 18 a (wdM cI cZ a hh σ) sz r) 0 0 (aN 18 a sz) := by
  refine Met.ofW (cc := cX6_gapFor) (maxL := 6) (ret := (some .int)) (by decide) rfl ?_
  intro p e s m args below meth c s₁ B hml hv
  obtain ⟨hav, hsz, hP, hKK⟩ := hv
  have hx := B.exec
  have hb := B.bytes
  have hr := B.returns
  have hts := atoms_spec (ws := wsX6_gapFor) B.pre
  have hown : s.vm.findClass RX6 = some m.cls := findClass_of_methodNamed B.named
  have hlocks := B.notSynchronized
  have CF : CallFix p m c cX6_gapFor 6 s args wsX6_gapFor RX6 := ⟨hx, hb, hml, hown, hts⟩
  have hz : zz (dC, dI) 18 a (wdM cI cZ a hh σ) s.heap s.heap [] := ⟨hP, va_S.rf⟩
  have hl := lv_entry [.ref (a 0), .int x1, .int x2] (n := 6) (Nat.le_of_ble_eq_true rfl)
  have hen : entryFrame m args 6 = entryFrame m ([.ref (a 0), .int x1, .int x2] : List Value).toArray 6 := by rw [hav]
  rw [hen, lg_entry_eq]
  generalize (lg_sl [.ref (a 0), .int x1, .int x2] ++ List.replicate (6 - (lg_sl [.ref (a 0), .int x1, .int x2]).length) Slot.unset).toArray = ls at hl ⊢
  have hl : lv_has ls 6 [(0, .ref (a 0)), (1, .int x1), (2, .int x2)] := hl
  have eR : (headSpec wsX6_gapFor rmX6_gapFor).room = rmX6_gapFor := rfl
  rw [eR]
  have rt : ∀ (v : Int32) (t : St) (pc : Nat) (H : Heap) (locs : List Loc) (ls : Array Slot), decode cX6_gapFor pc = .ok (.ireturn, 1) → some v = some r → zz (dC, dI) 18 a (wdM cI cZ a hh σ) s.heap H locs → W p l e rmX6_gapFor s m args below meth c H locs 0 0 (MQ below (Qzi (dC, dI) 18 a (wdM cI cZ a hh σ) sz r) args s 0 0 (aN 18 a sz)) (F0 m pc ls [.int v]) := by
    intro v t pc H locs ls hd h hz
    cases h
    exact ziret hsz hx hb hr hlocks hz hd
  generalize (MQ below (Qzi (dC, dI) 18 a (wdM cI cZ a hh σ) sz r) args s 0 0 (aN 18 a sz)) = Q at rt ⊢
  have s17 : ∀ (k17 : Int32 → Int32 → Int32 → Int32 → Int32 → Option (Int32)) (hk17 : (∀ (y1 : Int32) (y2 : Int32) (y3 : Int32) (y4 : Int32) (y5 : Int32) (H : Heap) (locs : List Loc) (ls : Array Slot), k17 y1 y2 y3 y4 y5 = some r → zz (dC, dI) 18 a (wdM cI cZ a hh σ) s.heap H locs → lv_has ls 6 [(0, .ref (a 0)), (1, .int y1), (2, .int y2), (3, .int y3), (4, .int y4), (5, .int y5)] → W p l e rmX6_gapFor s m args below meth c H locs 0 0 Q (F0 m 17 ls []))) (y1 : Int32) (y2 : Int32) (y3 : Int32) (y4 : Int32) (y5 : Int32) (H : Heap) (locs : List Loc) (ls : Array Slot), fX6_gapFor_s17 σ k17 y1 y2 y3 y4 y5 = some r → zz (dC, dI) 18 a (wdM cI cZ a hh σ) s.heap H locs → lv_has ls 6 [(0, .ref (a 0)), (1, .int y1), (2, .int y2), (3, .int y3), (4, .int y4), (5, .int y5)] → W p l e rmX6_gapFor s m args below meth c H locs 0 0 Q (F0 m 17 ls []) := by
    intro k17 hk17 y1 y2 y3 y4 y5 H locs ls h hz hl
    unfold fX6_gapFor_s17 at h
    refine lv_iload hx hb dX6_gapFor_17 (lv_at hl 5 rfl) ?_
    refine lv_aload_n hx hb dX6_gapFor_19 rfl (lv_at hl 0 rfl) ?_
    refine va_get (v := .int (σ 41 0)) hx hb hts inX6_gapFor_X6 hown hKK.1 hz.1 0 rfl rfl 2 (by decide) (hts _ (List.mem_of_getElem? (i := 2) rfl)) (fun _ h9 => h9) rfl dX6_gapFor_20 ?_
    refine lv_icmp_ge (tgt := 105) hx hb dX6_gapFor_23 (by decide) (fun c5 => ?_) (fun c5 => ?_)
    · replace h := ite_t c5 h
      refine lv_iload_n hx hb dX6_gapFor_105 rfl (lv_at hl 3 rfl) ?_
      exact rt y3 σ 106 _ _ _ dX6_gapFor_106 h hz
    · replace h := ite_f c5 h
      refine lv_aload_n hx hb dX6_gapFor_26 rfl (lv_at hl 0 rfl) ?_
      refine va_get (v := .ref (a 2)) hx hb hts inX6_gapFor_X6 hown hKK.1 hz.1 0 rfl rfl 3 (by decide) (hts _ (List.mem_of_getElem? (i := 3) rfl)) (fun _ h9 => h9) rfl dX6_gapFor_27 ?_
      refine lv_iload hx hb dX6_gapFor_30 (lv_at hl 5 rfl) ?_
      obtain ⟨c6, h⟩ := ck_e h
      refine va_iald (f := (σ 2)) hx hb hKK.1 hz.1 2 0 rfl rfl c6 dX6_gapFor_32 ?_
      refine lv_iconst (v := (5 : Int32)) hx hb dX6_gapFor_33 (by decide) ?_
      refine lv_icmp_ne (tgt := 99) hx hb dX6_gapFor_34 (by decide) (fun c7 => ?_) (fun c7 => ?_)
      · replace h := ite_f c7 h
        refine lv_iinc (v := (y5 + (1 : Int32))) (lv' := [(5, .int (y5 + (1 : Int32))), (0, .ref (a 0)), (1, .int y1), (2, .int y2), (3, .int y3), (4, .int y4)]) hx hb dX6_gapFor_99 hl (k := 5) rfl rfl (by decide) rfl (fun ls hl => ?_)
        refine lv_goto (tgt := 17) hx hb dX6_gapFor_102 (by decide) ?_
        exact hk17 y1 y2 y3 y4 (y5 + (1 : Int32)) _ _ _ h hz (lv_sub hl [1, 2, 3, 4, 5, 0] rfl)
      · replace h := ite_t c7 h
        refine lv_aload_n hx hb dX6_gapFor_37 rfl (lv_at hl 0 rfl) ?_
        refine va_get (v := .ref (a 15)) hx hb hts inX6_gapFor_X6 hown hKK.1 hz.1 0 rfl rfl 24 (by decide) (hts _ (List.mem_of_getElem? (i := 4) rfl)) (fun _ h9 => h9) rfl dX6_gapFor_38 ?_
        refine lv_iload hx hb dX6_gapFor_41 (lv_at hl 5 rfl) ?_
        obtain ⟨c8, h⟩ := ck_e h
        refine va_iald (f := (σ 15)) hx hb hKK.1 hz.1 15 0 rfl rfl c8 dX6_gapFor_43 ?_
        refine lv_iload_n hx hb dX6_gapFor_44 rfl (lv_at hl 1 rfl) ?_
        obtain ⟨r9, e11, h⟩ := bd1_e h
        refine zcallSi (As := [.int ((σ 15) (Int32.toNatClampNeg y5)), .int y1]) (rest := []) CF hKK (KX6_apart (dC := dC) (dI := dI) (cI := cI) (cZ := cZ) (a := a) hok e11) (va_cwS 2 hts gX6_gapFor_X6_apart rfl rfl rfl cdX6_apart.2 ⟨Nat.le_of_ble_eq_true rfl, Nat.le_of_ble_eq_true rfl⟩) hz rfl hl.1 rfl (Nat.le_of_ble_eq_true rfl) dX6_gapFor_45 ⟨Nat.le_refl _, Nat.le_refl _⟩ (fun H locs hz => ?_)
        refine lv_aload_n hx hb dX6_gapFor_48 rfl (lv_at hl 0 rfl) ?_
        refine va_get (v := .ref (a 4)) hx hb hts inX6_gapFor_X6 hown hKK.1 hz.1 0 rfl rfl 7 (by decide) (hts _ (List.mem_of_getElem? (i := 5) rfl)) (fun _ h9 => h9) rfl dX6_gapFor_49 ?_
        refine lv_iconst (v := (1 : Int32)) hx hb dX6_gapFor_52 (by decide) ?_
        refine va_iald (f := (σ 4)) hx hb hKK.1 hz.1 4 0 rfl rfl (by decide : vp_inD (1 : Int32) 3) dX6_gapFor_53 ?_
        refine lv_icmp_gt (tgt := 99) hx hb dX6_gapFor_54 (by decide) (fun c12 => ?_) (fun c12 => ?_)
        · replace h := ite_t c12 h
          refine lv_iinc (v := (y5 + (1 : Int32))) (lv' := [(5, .int (y5 + (1 : Int32))), (0, .ref (a 0)), (1, .int y1), (2, .int y2), (3, .int y3), (4, .int y4)]) hx hb dX6_gapFor_99 hl (k := 5) rfl rfl (by decide) rfl (fun ls hl => ?_)
          refine lv_goto (tgt := 17) hx hb dX6_gapFor_102 (by decide) ?_
          exact hk17 y1 y2 y3 y4 (y5 + (1 : Int32)) _ _ _ h hz (lv_sub hl [1, 2, 3, 4, 5, 0] rfl)
        · replace h := ite_f c12 h
          refine lv_aload_n hx hb dX6_gapFor_57 rfl (lv_at hl 0 rfl) ?_
          refine va_get (v := .ref (a 15)) hx hb hts inX6_gapFor_X6 hown hKK.1 hz.1 0 rfl rfl 24 (by decide) (hts _ (List.mem_of_getElem? (i := 4) rfl)) (fun _ h9 => h9) rfl dX6_gapFor_58 ?_
          refine lv_iload hx hb dX6_gapFor_61 (lv_at hl 5 rfl) ?_
          obtain ⟨c13, h⟩ := ck_e h
          refine va_iald (f := (σ 15)) hx hb hKK.1 hz.1 15 0 rfl rfl c13 dX6_gapFor_63 ?_
          refine lv_aload_n hx hb dX6_gapFor_64 rfl (lv_at hl 0 rfl) ?_
          refine va_get (v := .ref (a 17)) hx hb hts inX6_gapFor_X6 hown hKK.1 hz.1 0 rfl rfl 26 (by decide) (hts _ (List.mem_of_getElem? (i := 1) rfl)) (fun _ h9 => h9) rfl dX6_gapFor_65 ?_
          refine lv_iload_n hx hb dX6_gapFor_68 rfl (lv_at hl 2 rfl) ?_
          obtain ⟨c14, h⟩ := ck_e h
          refine va_iald (f := (σ 17)) hx hb hKK.1 hz.1 17 0 rfl rfl c14 dX6_gapFor_69 ?_
          obtain ⟨r15, e17, h⟩ := bd1_e h
          refine zcallSi (As := [.int ((σ 15) (Int32.toNatClampNeg y5)), .int ((σ 17) (Int32.toNatClampNeg y2))]) (rest := []) CF hKK (KX6_apart (dC := dC) (dI := dI) (cI := cI) (cZ := cZ) (a := a) hok e17) (va_cwS 2 hts gX6_gapFor_X6_apart rfl rfl rfl cdX6_apart.2 ⟨Nat.le_of_ble_eq_true rfl, Nat.le_of_ble_eq_true rfl⟩) hz rfl hl.1 rfl (Nat.le_of_ble_eq_true rfl) dX6_gapFor_70 ⟨Nat.le_refl _, Nat.le_refl _⟩ (fun H locs hz => ?_)
          refine lv_iload hx hb dX6_gapFor_73 (lv_at hl 4 rfl) ?_
          refine lv_icmp_ge (tgt := 99) hx hb dX6_gapFor_75 (by decide) (fun c18 => ?_) (fun c18 => ?_)
          · replace h := ite_t c18 h
            refine lv_iinc (v := (y5 + (1 : Int32))) (lv' := [(5, .int (y5 + (1 : Int32))), (0, .ref (a 0)), (1, .int y1), (2, .int y2), (3, .int y3), (4, .int y4)]) hx hb dX6_gapFor_99 hl (k := 5) rfl rfl (by decide) rfl (fun ls hl => ?_)
            refine lv_goto (tgt := 17) hx hb dX6_gapFor_102 (by decide) ?_
            exact hk17 y1 y2 y3 y4 (y5 + (1 : Int32)) _ _ _ h hz (lv_sub hl [1, 2, 3, 4, 5, 0] rfl)
          · replace h := ite_f c18 h
            refine lv_iload hx hb dX6_gapFor_78 (lv_at hl 5 rfl) ?_
            refine lv_istore_n (lv' := [(3, .int y5), (0, .ref (a 0)), (1, .int y1), (2, .int y2), (4, .int y4), (5, .int y5)]) hx hb dX6_gapFor_80 rfl hl (by decide) rfl (fun ls hl => ?_)
            refine lv_aload_n hx hb dX6_gapFor_81 rfl (lv_at hl 1 rfl) ?_
            refine va_get (v := .ref (a 15)) hx hb hts inX6_gapFor_X6 hown hKK.1 hz.1 0 rfl rfl 24 (by decide) (hts _ (List.mem_of_getElem? (i := 4) rfl)) (fun _ h9 => h9) rfl dX6_gapFor_82 ?_
            refine lv_iload hx hb dX6_gapFor_85 (lv_at hl 5 rfl) ?_
            obtain ⟨c19, h⟩ := ck_e h
            refine va_iald (f := (σ 15)) hx hb hKK.1 hz.1 15 0 rfl rfl c19 dX6_gapFor_87 ?_
            refine lv_aload_n hx hb dX6_gapFor_88 rfl (lv_at hl 1 rfl) ?_
            refine va_get (v := .ref (a 17)) hx hb hts inX6_gapFor_X6 hown hKK.1 hz.1 0 rfl rfl 26 (by decide) (hts _ (List.mem_of_getElem? (i := 1) rfl)) (fun _ h9 => h9) rfl dX6_gapFor_89 ?_
            refine lv_iload_n hx hb dX6_gapFor_92 rfl (lv_at hl 3 rfl) ?_
            obtain ⟨c20, h⟩ := ck_e h
            refine va_iald (f := (σ 17)) hx hb hKK.1 hz.1 17 0 rfl rfl c20 dX6_gapFor_93 ?_
            obtain ⟨r21, e23, h⟩ := bd1_e h
            refine zcallSi (As := [.int ((σ 15) (Int32.toNatClampNeg y5)), .int ((σ 17) (Int32.toNatClampNeg y2))]) (rest := []) CF hKK (KX6_apart (dC := dC) (dI := dI) (cI := cI) (cZ := cZ) (a := a) hok e23) (va_cwS 2 hts gX6_gapFor_X6_apart rfl rfl rfl cdX6_apart.2 ⟨Nat.le_of_ble_eq_true rfl, Nat.le_of_ble_eq_true rfl⟩) hz rfl hl.1 rfl (Nat.le_of_ble_eq_true rfl) dX6_gapFor_94 ⟨Nat.le_refl _, Nat.le_refl _⟩ (fun H locs hz => ?_)
            refine lv_istore (lv' := [(4, .int r21), (3, .int y5), (0, .ref (a 0)), (1, .int y1), (2, .int y2), (5, .int y5)]) hx hb dX6_gapFor_97 hl (by decide) rfl (fun ls hl => ?_)
            refine lv_iinc (v := (y5 + (1 : Int32))) (lv' := [(5, .int (y5 + (1 : Int32))), (4, .int r21), (3, .int y5), (0, .ref (a 0)), (1, .int y1), (2, .int y2)]) hx hb dX6_gapFor_99 hl (k := 5) rfl rfl (by decide) rfl (fun ls hl => ?_)
            refine lv_goto (tgt := 17) hx hb dX6_gapFor_102 (by decide) ?_
            exact hk17 y1 y2 y5 r21 (y5 + (1 : Int32)) _ _ _ h hz (lv_sub hl [3, 4, 5, 2, 1, 0] rfl)
  have l17 : ∀  (n : Nat), ∀ (y1 : Int32) (y2 : Int32) (y3 : Int32) (y4 : Int32) (y5 : Int32) (H : Heap) (locs : List Loc) (ls : Array Slot), fX6_gapFor_l17 σ  n y1 y2 y3 y4 y5 = some r → zz (dC, dI) 18 a (wdM cI cZ a hh σ) s.heap H locs → lv_has ls 6 [(0, .ref (a 0)), (1, .int y1), (2, .int y2), (3, .int y3), (4, .int y4), (5, .int y5)] → W p l e rmX6_gapFor s m args below meth c H locs 0 0 Q (F0 m 17 ls []) := by
    intro  n
    induction n with
    | zero => intro y1 y2 y3 y4 y5 H locs ls h; exact nomatch h
    | succ n ih => exact s17  (fX6_gapFor_l17 σ  n) ih
  unfold fX6_gapFor at h
  refine lv_iconst (v := (-1 : Int32)) hx hb dX6_gapFor_0 (by decide) ?_
  refine lv_istore_n (lv' := [(3, .int (-1 : Int32)), (0, .ref (a 0)), (1, .int x1), (2, .int x2)]) hx hb dX6_gapFor_1 rfl hl (by decide) rfl (fun ls hl => ?_)
  refine lv_iload_n hx hb dX6_gapFor_2 rfl (lv_at hl 2 rfl) ?_
  refine lv_aload_n hx hb dX6_gapFor_3 rfl (lv_at hl 1 rfl) ?_
  refine va_get (v := .ref (a 17)) hx hb hts inX6_gapFor_X6 hown hKK.1 hz.1 0 rfl rfl 26 (by decide) (hts _ (List.mem_of_getElem? (i := 1) rfl)) (fun _ h9 => h9) rfl dX6_gapFor_4 ?_
  refine lv_iload_n hx hb dX6_gapFor_7 rfl (lv_at hl 3 rfl) ?_
  obtain ⟨c1, h⟩ := ck_e h
  refine va_iald (f := (σ 17)) hx hb hKK.1 hz.1 17 0 rfl rfl c1 dX6_gapFor_8 ?_
  obtain ⟨r2, e4, h⟩ := bd1_e h
  refine zcallSi (As := [.int x1, .int ((σ 17) (Int32.toNatClampNeg x2))]) (rest := []) CF hKK (KX6_apart (dC := dC) (dI := dI) (cI := cI) (cZ := cZ) (a := a) hok e4) (va_cwS 2 hts gX6_gapFor_X6_apart rfl rfl rfl cdX6_apart.2 ⟨Nat.le_of_ble_eq_true rfl, Nat.le_of_ble_eq_true rfl⟩) hz rfl hl.1 rfl (Nat.le_of_ble_eq_true rfl) dX6_gapFor_9 ⟨Nat.le_refl _, Nat.le_refl _⟩ (fun H locs hz => ?_)
  refine lv_istore (lv' := [(4, .int r2), (3, .int (-1 : Int32)), (0, .ref (a 0)), (1, .int x1), (2, .int x2)]) hx hb dX6_gapFor_12 hl (by decide) rfl (fun ls hl => ?_)
  refine lv_iconst (v := (0 : Int32)) hx hb dX6_gapFor_14 (by decide) ?_
  refine lv_istore (lv' := [(5, .int (0 : Int32)), (4, .int r2), (3, .int (-1 : Int32)), (0, .ref (a 0)), (1, .int x1), (2, .int x2)]) hx hb dX6_gapFor_15 hl (by decide) rfl (fun ls hl => ?_)
  exact l17  FU x1 x2 (-1 : Int32) r2 (0 : Int32) _ _ _ h hz (lv_sub hl [3, 4, 5, 2, 1, 0] rfl)
def fX6_putIsland_b23  (σ : St) (y3 : Int32) (y4 : Int32) : Option (Int32 × St) :=
  (bd2 (fX6_fails σ y3 y4) fun r5 s6 => (ck (r5 = 0 ∨ r5 = 1) <| some (r5, s6)))
def fX6_putIsland (σ : St) (x1 : Int32) (x2 : Int32) (x3 : Int32) (x4 : Int32) : Option (Int32 × St) :=
  (bd1 (fX6_gapFor σ x1 x2) fun r1 => (if r1 = (-1 : Int32) then (fX6_putIsland_b23  σ x3 x4) else ((if (σ 48 0) = (12 : Int32) then (fX6_putIsland_b23  σ x3 x4) else ((ck (¬ ((σ 48 0) < 0 ∨ 12 ≤ Int32.toNatClampNeg (σ 48 0))) <| (ck (¬ ((σ 48 0) < 0 ∨ 12 ≤ Int32.toNatClampNeg (σ 48 0))) <| some ((1 : Int32), (si (sa (sa σ 8 (Int32.toNatClampNeg (σ 48 0)) x2) 9 (Int32.toNatClampNeg (σ 48 0)) r1) 48 ((σ 48 0) + (1 : Int32)))))))))))
abbrev rmX6_putIsland : Room := { frames := 2, cells := 0, slots := 0, locals := 46 }
set_option maxHeartbeats 4000000 in
set_option maxRecDepth 100000 in
theorem KX6_putIsland {l : Launch} {dC : Nat → ClassId} {dI : Nat → Nat → Nat} {cI cZ : ClassId} {a : Nat → Nat} {hh : Int64} {σ : St} {x1 : Int32} {x2 : Int32} {x3 : Int32} {x4 : Int32} {r : Int32} {σ2 : St} (hok : okA 18 a) (h : fX6_putIsland σ x1 x2 x3 x4 = some (r, σ2)) (sz : Nat) : Met l yX6_putIsland wsX6_putIsland rmX6_putIsland (Pz (dC, dI) cI cZ (wdM cI cZ a hh σ) sz [.ref (a 0), .int x1, .int x2, .int x3, .int x4]) (Qzi (dC, dI) 18 a (wdM cI cZ a hh σ2) sz r) 0 0 (aN 18 a sz) := by
  refine Met.ofW (cc := cX6_putIsland) (maxL := 6) (ret := (some .boolean)) (by decide) rfl ?_
  intro p e s m args below meth c s₁ B hml hv
  obtain ⟨hav, hsz, hP, hKK⟩ := hv
  have hx := B.exec
  have hb := B.bytes
  have hr := B.returns
  have hts := atoms_spec (ws := wsX6_putIsland) B.pre
  have hown : s.vm.findClass RX6 = some m.cls := findClass_of_methodNamed B.named
  have hlocks := B.notSynchronized
  have CF : CallFix p m c cX6_putIsland 6 s args wsX6_putIsland RX6 := ⟨hx, hb, hml, hown, hts⟩
  have hz : zz (dC, dI) 18 a (wdM cI cZ a hh σ) s.heap s.heap [] := ⟨hP, va_S.rf⟩
  have hl := lv_entry [.ref (a 0), .int x1, .int x2, .int x3, .int x4] (n := 6) (Nat.le_of_ble_eq_true rfl)
  have hen : entryFrame m args 6 = entryFrame m ([.ref (a 0), .int x1, .int x2, .int x3, .int x4] : List Value).toArray 6 := by rw [hav]
  rw [hen, lg_entry_eq]
  generalize (lg_sl [.ref (a 0), .int x1, .int x2, .int x3, .int x4] ++ List.replicate (6 - (lg_sl [.ref (a 0), .int x1, .int x2, .int x3, .int x4]).length) Slot.unset).toArray = ls at hl ⊢
  have hl : lv_has ls 6 [(0, .ref (a 0)), (1, .int x1), (2, .int x2), (3, .int x3), (4, .int x4)] := hl
  have eR : (headSpec wsX6_putIsland rmX6_putIsland).room = rmX6_putIsland := rfl
  rw [eR]
  have rt : ∀ (v : Int32) (t : St) (pc : Nat) (H : Heap) (locs : List Loc) (ls : Array Slot), decode cX6_putIsland pc = .ok (.ireturn, 1) → some (v, t) = some (r, σ2) → zz (dC, dI) 18 a (wdM cI cZ a hh t) s.heap H locs → (v = 0 ∨ v = 1) → W p l e rmX6_putIsland s m args below meth c H locs 0 0 (MQ below (Qzi (dC, dI) 18 a (wdM cI cZ a hh σ2) sz r) args s 0 0 (aN 18 a sz)) (F0 m pc ls [.int v]) := by
    intro v t pc H locs ls hd h hz hv
    cases h
    exact zzret hsz hx hb hr hlocks hv hz hd
  generalize (MQ below (Qzi (dC, dI) 18 a (wdM cI cZ a hh σ2) sz r) args s 0 0 (aN 18 a sz)) = Q at rt ⊢
  have b23 : ∀  (σ : St) (y3 : Int32) (y4 : Int32) (H : Heap) (locs : List Loc) (ls : Array Slot), fX6_putIsland_b23  σ y3 y4 = some (r, σ2) → zz (dC, dI) 18 a (wdM cI cZ a hh σ) s.heap H locs → lv_has ls 6 [(0, .ref (a 0)), (3, .int y3), (4, .int y4)] → W p l e rmX6_putIsland s m args below meth c H locs 0 0 Q (F0 m 23 ls []) := by
    intro  σ y3 y4 H locs ls h hz hl
    unfold fX6_putIsland_b23 at h
    refine lv_aload_n hx hb dX6_putIsland_23 rfl (lv_at hl 0 rfl) ?_
    refine lv_iload_n hx hb dX6_putIsland_24 rfl (lv_at hl 1 rfl) ?_
    refine lv_iload hx hb dX6_putIsland_25 (lv_at hl 2 rfl) ?_
    obtain ⟨r5, s6, e7, h⟩ := bd2_e h
    refine zcallVi (As := [.int y3, .int y4]) (rest := []) CF hKK (KX6_fails (dC := dC) (dI := dI) (cI := cI) (cZ := cZ) (a := a) hok e7) (cwV 2 hts gX6_putIsland_X6_fails rfl rfl rfl cdX6_fails ⟨Nat.le_of_ble_eq_true rfl, Nat.le_of_ble_eq_true rfl⟩) 0 6 rfl rfl hz rfl hl.1 rfl (Nat.le_of_ble_eq_true rfl) dX6_putIsland_27 ⟨Nat.le_refl _, Nat.le_refl _⟩ (fun H locs hz => ?_)
    obtain ⟨c8, h⟩ := ck_e h
    exact rt r5 s6 30 _ _ _ dX6_putIsland_30 h hz c8
  unfold fX6_putIsland at h
  refine lv_aload_n hx hb dX6_putIsland_0 rfl (lv_at hl 0 rfl) ?_
  refine lv_iload_n hx hb dX6_putIsland_1 rfl (lv_at hl 1 rfl) ?_
  refine lv_iload_n hx hb dX6_putIsland_2 rfl (lv_at hl 2 rfl) ?_
  obtain ⟨r1, e3, h⟩ := bd1_e h
  refine zcallVi (As := [.int x1, .int x2]) (rest := []) CF hKK (KX6_gapFor (dC := dC) (dI := dI) (cI := cI) (cZ := cZ) (a := a) hok e3) (cwV 2 hts gX6_putIsland_X6_gapFor rfl rfl rfl cdX6_gapFor ⟨Nat.le_of_ble_eq_true rfl, Nat.le_of_ble_eq_true rfl⟩) 0 6 rfl rfl hz rfl hl.1 rfl (Nat.le_of_ble_eq_true rfl) dX6_putIsland_3 ⟨Nat.le_refl _, Nat.le_refl _⟩ (fun H locs hz => ?_)
  refine lv_istore (lv' := [(5, .int r1), (0, .ref (a 0)), (1, .int x1), (2, .int x2), (3, .int x3), (4, .int x4)]) hx hb dX6_putIsland_6 hl (by decide) rfl (fun ls hl => ?_)
  refine lv_iload hx hb dX6_putIsland_8 (lv_at hl 0 rfl) ?_
  refine lv_iconst (v := (-1 : Int32)) hx hb dX6_putIsland_10 (by decide) ?_
  refine lv_icmp_eq (tgt := 23) hx hb dX6_putIsland_11 (by decide) (fun c4 => ?_) (fun c4 => ?_)
  · replace h := ite_t c4 h
    exact b23  σ x3 x4 _ _ _ h hz (lv_sub hl [1, 4, 5] rfl)
  · replace h := ite_f c4 h
    refine lv_aload_n hx hb dX6_putIsland_14 rfl (lv_at hl 1 rfl) ?_
    refine va_get (v := .int (σ 48 0)) hx hb hts inX6_putIsland_X6 hown hKK.1 hz.1 0 rfl rfl 15 (by decide) (hts _ (List.mem_of_getElem? (i := 1) rfl)) (fun _ h9 => h9) rfl dX6_putIsland_15 ?_
    refine lv_bipush (v := (12 : Int32)) hx hb dX6_putIsland_18 (by decide) ?_
    refine lv_icmp_ne (tgt := 31) hx hb dX6_putIsland_20 (by decide) (fun c9 => ?_) (fun c9 => ?_)
    · replace h := ite_f c9 h
      refine lv_aload_n hx hb dX6_putIsland_31 rfl (lv_at hl 1 rfl) ?_
      refine va_get (v := .ref (a 8)) hx hb hts inX6_putIsland_X6 hown hKK.1 hz.1 0 rfl rfl 16 (by decide) (hts _ (List.mem_of_getElem? (i := 2) rfl)) (fun _ h9 => h9) rfl dX6_putIsland_32 ?_
      refine lv_aload_n hx hb dX6_putIsland_35 rfl (lv_at hl 1 rfl) ?_
      refine va_get (v := .int (σ 48 0)) hx hb hts inX6_putIsland_X6 hown hKK.1 hz.1 0 rfl rfl 15 (by decide) (hts _ (List.mem_of_getElem? (i := 1) rfl)) (fun _ h9 => h9) rfl dX6_putIsland_36 ?_
      refine lv_iload_n hx hb dX6_putIsland_39 rfl (lv_at hl 3 rfl) ?_
      obtain ⟨c10, h⟩ := ck_e h
      refine ziast (f := σ 8) (w' := wdM cI cZ a hh (sa σ 8 (Int32.toNatClampNeg (σ 48 0)) x2)) hx hb hKK hok wkM hz 8 rfl c10 setMa_8 dX6_putIsland_40 (fun H locs hz => ?_)
      refine lv_aload_n hx hb dX6_putIsland_41 rfl (lv_at hl 1 rfl) ?_
      refine va_get (v := .ref (a 9)) hx hb hts inX6_putIsland_X6 hown hKK.1 hz.1 0 rfl rfl 17 (by decide) (hts _ (List.mem_of_getElem? (i := 3) rfl)) (fun _ h9 => h9) rfl dX6_putIsland_42 ?_
      refine lv_aload_n hx hb dX6_putIsland_45 rfl (lv_at hl 1 rfl) ?_
      refine va_get (v := .int (σ 48 0)) hx hb hts inX6_putIsland_X6 hown hKK.1 hz.1 0 rfl rfl 15 (by decide) (hts _ (List.mem_of_getElem? (i := 1) rfl)) (fun _ h9 => h9) rfl dX6_putIsland_46 ?_
      refine lv_iload hx hb dX6_putIsland_49 (lv_at hl 0 rfl) ?_
      obtain ⟨c11, h⟩ := ck_e h
      refine ziast (f := (sa σ 8 (Int32.toNatClampNeg (σ 48 0)) x2) 9) (w' := wdM cI cZ a hh (sa (sa σ 8 (Int32.toNatClampNeg (σ 48 0)) x2) 9 (Int32.toNatClampNeg (σ 48 0)) r1)) hx hb hKK hok wkM hz 9 rfl c11 setMa_9 dX6_putIsland_51 (fun H locs hz => ?_)
      refine lv_aload_n hx hb dX6_putIsland_52 rfl (lv_at hl 1 rfl) ?_
      refine lv_dup hx hb dX6_putIsland_53 rfl ?_
      refine va_get (v := .int (σ 48 0)) hx hb hts inX6_putIsland_X6 hown hKK.1 hz.1 0 rfl rfl 15 (by decide) (hts _ (List.mem_of_getElem? (i := 1) rfl)) (fun _ h9 => h9) rfl dX6_putIsland_54 ?_
      refine lv_iconst (v := (1 : Int32)) hx hb dX6_putIsland_57 (by decide) ?_
      refine lv_iadd hx hb dX6_putIsland_58 ?_
      refine zput (ty := .int) (w' := wdM cI cZ a hh (si (sa (sa σ 8 (Int32.toNatClampNeg (σ 48 0)) x2) 9 (Int32.toNatClampNeg (σ 48 0)) r1) 48 ((σ 48 0) + (1 : Int32)))) hx hb hts inX6_putIsland_X6 tyX6 tyX6_ok nmX6 hown hKK hok wkM hz 0 rfl rfl 15 (by decide) (hts _ (List.mem_of_getElem? (i := 1) rfl)) (fun _ h9 => h9) rfl rfl rfl rfl (Nat.le_of_ble_eq_true rfl) setMi_48 dX6_putIsland_59 (fun H locs hz => ?_)
      refine lv_iconst (v := (1 : Int32)) hx hb dX6_putIsland_62 (by decide) ?_
      exact rt (1 : Int32) (si (sa (sa σ 8 (Int32.toNatClampNeg (σ 48 0)) x2) 9 (Int32.toNatClampNeg (σ 48 0)) r1) 48 ((σ 48 0) + (1 : Int32))) 63 _ _ _ dX6_putIsland_63 h hz (Or.inr rfl)
    · replace h := ite_t c9 h
      exact b23  σ x3 x4 _ _ _ h hz (lv_sub hl [1, 4, 5] rfl)
def fX6_firstStuckIsland_s9 (σ : St) (k9 : Int32 → Int32 → Option (Int32)) (y1 : Int32) (y2 : Int32) : Option (Int32) :=
  (if y2 < 0 then (some y1) else ((ck (¬ (y2 < 0 ∨ 12 ≤ Int32.toNatClampNeg y2)) <| (ck (¬ (y2 < 0 ∨ 12 ≤ Int32.toNatClampNeg y2)) <| (bd1 (fX6_goesFrom σ ((σ 13) (Int32.toNatClampNeg y2)) ((σ 8) (Int32.toNatClampNeg y2))) fun r4 => (if r4 = (-1 : Int32) then (k9 y2 (y2 + (-1 : Int32))) else (k9 y1 (y2 + (-1 : Int32)))))))))
def fX6_firstStuckIsland_l9 (σ : St)  : Nat → Int32 → Int32 → Option (Int32) :=
  itr (fX6_firstStuckIsland_s9 σ ) (fun _ _ => none)
def fX6_firstStuckIsland (σ : St)  : Option (Int32) :=
  fX6_firstStuckIsland_l9 σ  FU (-1 : Int32) ((σ 48 0) - (1 : Int32))
abbrev rmX6_firstStuckIsland : Room := { frames := 3, cells := 0, slots := 0, locals := 70 }
set_option maxHeartbeats 4000000 in
set_option maxRecDepth 100000 in
theorem KX6_firstStuckIsland {l : Launch} {dC : Nat → ClassId} {dI : Nat → Nat → Nat} {cI cZ : ClassId} {a : Nat → Nat} {hh : Int64} {σ : St}  {r : Int32} (hok : okA 18 a) (h : fX6_firstStuckIsland σ  = some r) (sz : Nat) : Met l yX6_firstStuckIsland wsX6_firstStuckIsland rmX6_firstStuckIsland (Pz (dC, dI) cI cZ (wdM cI cZ a hh σ) sz [.ref (a 0)]) (Qzi (dC, dI) 18 a (wdM cI cZ a hh σ) sz r) 0 0 (aN 18 a sz) := by
  refine Met.ofW (cc := cX6_firstStuckIsland) (maxL := 3) (ret := (some .int)) (by decide) rfl ?_
  intro p e s m args below meth c s₁ B hml hv
  obtain ⟨hav, hsz, hP, hKK⟩ := hv
  have hx := B.exec
  have hb := B.bytes
  have hr := B.returns
  have hts := atoms_spec (ws := wsX6_firstStuckIsland) B.pre
  have hown : s.vm.findClass RX6 = some m.cls := findClass_of_methodNamed B.named
  have hlocks := B.notSynchronized
  have CF : CallFix p m c cX6_firstStuckIsland 3 s args wsX6_firstStuckIsland RX6 := ⟨hx, hb, hml, hown, hts⟩
  have hz : zz (dC, dI) 18 a (wdM cI cZ a hh σ) s.heap s.heap [] := ⟨hP, va_S.rf⟩
  have hl := lv_entry [.ref (a 0)] (n := 3) (Nat.le_of_ble_eq_true rfl)
  have hen : entryFrame m args 3 = entryFrame m ([.ref (a 0)] : List Value).toArray 3 := by rw [hav]
  rw [hen, lg_entry_eq]
  generalize (lg_sl [.ref (a 0)] ++ List.replicate (3 - (lg_sl [.ref (a 0)]).length) Slot.unset).toArray = ls at hl ⊢
  have hl : lv_has ls 3 [(0, .ref (a 0))] := hl
  have eR : (headSpec wsX6_firstStuckIsland rmX6_firstStuckIsland).room = rmX6_firstStuckIsland := rfl
  rw [eR]
  have rt : ∀ (v : Int32) (t : St) (pc : Nat) (H : Heap) (locs : List Loc) (ls : Array Slot), decode cX6_firstStuckIsland pc = .ok (.ireturn, 1) → some v = some r → zz (dC, dI) 18 a (wdM cI cZ a hh σ) s.heap H locs → W p l e rmX6_firstStuckIsland s m args below meth c H locs 0 0 (MQ below (Qzi (dC, dI) 18 a (wdM cI cZ a hh σ) sz r) args s 0 0 (aN 18 a sz)) (F0 m pc ls [.int v]) := by
    intro v t pc H locs ls hd h hz
    cases h
    exact ziret hsz hx hb hr hlocks hz hd
  generalize (MQ below (Qzi (dC, dI) 18 a (wdM cI cZ a hh σ) sz r) args s 0 0 (aN 18 a sz)) = Q at rt ⊢
  have s9 : ∀ (k9 : Int32 → Int32 → Option (Int32)) (hk9 : (∀ (y1 : Int32) (y2 : Int32) (H : Heap) (locs : List Loc) (ls : Array Slot), k9 y1 y2 = some r → zz (dC, dI) 18 a (wdM cI cZ a hh σ) s.heap H locs → lv_has ls 3 [(0, .ref (a 0)), (1, .int y1), (2, .int y2)] → W p l e rmX6_firstStuckIsland s m args below meth c H locs 0 0 Q (F0 m 9 ls []))) (y1 : Int32) (y2 : Int32) (H : Heap) (locs : List Loc) (ls : Array Slot), fX6_firstStuckIsland_s9 σ k9 y1 y2 = some r → zz (dC, dI) 18 a (wdM cI cZ a hh σ) s.heap H locs → lv_has ls 3 [(0, .ref (a 0)), (1, .int y1), (2, .int y2)] → W p l e rmX6_firstStuckIsland s m args below meth c H locs 0 0 Q (F0 m 9 ls []) := by
    intro k9 hk9 y1 y2 H locs ls h hz hl
    unfold fX6_firstStuckIsland_s9 at h
    refine lv_iload_n hx hb dX6_firstStuckIsland_9 rfl (lv_at hl 2 rfl) ?_
    refine lv_if_lt (tgt := 45) hx hb dX6_firstStuckIsland_10 (by decide) (fun c1 => ?_) (fun c1 => ?_)
    · replace h := ite_t c1 h
      refine lv_iload_n hx hb dX6_firstStuckIsland_45 rfl (lv_at hl 1 rfl) ?_
      exact rt y1 σ 46 _ _ _ dX6_firstStuckIsland_46 h hz
    · replace h := ite_f c1 h
      refine lv_aload_n hx hb dX6_firstStuckIsland_13 rfl (lv_at hl 0 rfl) ?_
      refine lv_aload_n hx hb dX6_firstStuckIsland_14 rfl (lv_at hl 0 rfl) ?_
      refine va_get (v := .ref (a 13)) hx hb hts inX6_firstStuckIsland_X6 hown hKK.1 hz.1 0 rfl rfl 22 (by decide) (hts _ (List.mem_of_getElem? (i := 2) rfl)) (fun _ h9 => h9) rfl dX6_firstStuckIsland_15 ?_
      refine lv_iload_n hx hb dX6_firstStuckIsland_18 rfl (lv_at hl 2 rfl) ?_
      obtain ⟨c2, h⟩ := ck_e h
      refine va_iald (f := (σ 13)) hx hb hKK.1 hz.1 13 0 rfl rfl c2 dX6_firstStuckIsland_19 ?_
      refine lv_aload_n hx hb dX6_firstStuckIsland_20 rfl (lv_at hl 0 rfl) ?_
      refine va_get (v := .ref (a 8)) hx hb hts inX6_firstStuckIsland_X6 hown hKK.1 hz.1 0 rfl rfl 16 (by decide) (hts _ (List.mem_of_getElem? (i := 3) rfl)) (fun _ h9 => h9) rfl dX6_firstStuckIsland_21 ?_
      refine lv_iload_n hx hb dX6_firstStuckIsland_24 rfl (lv_at hl 2 rfl) ?_
      obtain ⟨c3, h⟩ := ck_e h
      refine va_iald (f := (σ 8)) hx hb hKK.1 hz.1 8 0 rfl rfl c3 dX6_firstStuckIsland_25 ?_
      obtain ⟨r4, e6, h⟩ := bd1_e h
      refine zcallVi (As := [.int ((σ 13) (Int32.toNatClampNeg y2)), .int ((σ 8) (Int32.toNatClampNeg y2))]) (rest := []) CF hKK (KX6_goesFrom (dC := dC) (dI := dI) (cI := cI) (cZ := cZ) (a := a) hok e6) (cwV 2 hts gX6_firstStuckIsland_X6_goesFrom rfl rfl rfl cdX6_goesFrom ⟨Nat.le_of_ble_eq_true rfl, Nat.le_of_ble_eq_true rfl⟩) 0 6 rfl rfl hz rfl hl.1 rfl (Nat.le_of_ble_eq_true rfl) dX6_firstStuckIsland_26 ⟨Nat.le_refl _, Nat.le_refl _⟩ (fun H locs hz => ?_)
      refine lv_iconst (v := (-1 : Int32)) hx hb dX6_firstStuckIsland_29 (by decide) ?_
      refine lv_icmp_ne (tgt := 37) hx hb dX6_firstStuckIsland_30 (by decide) (fun c7 => ?_) (fun c7 => ?_)
      · replace h := ite_f c7 h
        refine lv_iload_n hx hb dX6_firstStuckIsland_37 rfl (lv_at hl 1 rfl) ?_
        refine lv_istore_n (lv' := [(1, .int y1), (0, .ref (a 0)), (2, .int y2)]) hx hb dX6_firstStuckIsland_38 rfl hl (by decide) rfl (fun ls hl => ?_)
        refine lv_iinc (v := (y2 + (-1 : Int32))) (lv' := [(2, .int (y2 + (-1 : Int32))), (1, .int y1), (0, .ref (a 0))]) hx hb dX6_firstStuckIsland_39 hl (k := 2) rfl rfl (by decide) rfl (fun ls hl => ?_)
        refine lv_goto (tgt := 9) hx hb dX6_firstStuckIsland_42 (by decide) ?_
        exact hk9 y1 (y2 + (-1 : Int32)) _ _ _ h hz (lv_sub hl [2, 1, 0] rfl)
      · replace h := ite_t c7 h
        refine lv_iload_n hx hb dX6_firstStuckIsland_33 rfl (lv_at hl 2 rfl) ?_
        refine lv_goto (tgt := 38) hx hb dX6_firstStuckIsland_34 (by decide) ?_
        refine lv_istore_n (lv' := [(1, .int y2), (0, .ref (a 0)), (2, .int y2)]) hx hb dX6_firstStuckIsland_38 rfl hl (by decide) rfl (fun ls hl => ?_)
        refine lv_iinc (v := (y2 + (-1 : Int32))) (lv' := [(2, .int (y2 + (-1 : Int32))), (1, .int y2), (0, .ref (a 0))]) hx hb dX6_firstStuckIsland_39 hl (k := 2) rfl rfl (by decide) rfl (fun ls hl => ?_)
        refine lv_goto (tgt := 9) hx hb dX6_firstStuckIsland_42 (by decide) ?_
        exact hk9 y2 (y2 + (-1 : Int32)) _ _ _ h hz (lv_sub hl [2, 1, 0] rfl)
  have l9 : ∀  (n : Nat), ∀ (y1 : Int32) (y2 : Int32) (H : Heap) (locs : List Loc) (ls : Array Slot), fX6_firstStuckIsland_l9 σ  n y1 y2 = some r → zz (dC, dI) 18 a (wdM cI cZ a hh σ) s.heap H locs → lv_has ls 3 [(0, .ref (a 0)), (1, .int y1), (2, .int y2)] → W p l e rmX6_firstStuckIsland s m args below meth c H locs 0 0 Q (F0 m 9 ls []) := by
    intro  n
    induction n with
    | zero => intro y1 y2 H locs ls h; exact nomatch h
    | succ n ih => exact s9  (fX6_firstStuckIsland_l9 σ  n) ih
  unfold fX6_firstStuckIsland at h
  refine lv_iconst (v := (-1 : Int32)) hx hb dX6_firstStuckIsland_0 (by decide) ?_
  refine lv_istore_n (lv' := [(1, .int (-1 : Int32)), (0, .ref (a 0))]) hx hb dX6_firstStuckIsland_1 rfl hl (by decide) rfl (fun ls hl => ?_)
  refine lv_aload_n hx hb dX6_firstStuckIsland_2 rfl (lv_at hl 1 rfl) ?_
  refine va_get (v := .int (σ 48 0)) hx hb hts inX6_firstStuckIsland_X6 hown hKK.1 hz.1 0 rfl rfl 15 (by decide) (hts _ (List.mem_of_getElem? (i := 1) rfl)) (fun _ h9 => h9) rfl dX6_firstStuckIsland_3 ?_
  refine lv_iconst (v := (1 : Int32)) hx hb dX6_firstStuckIsland_6 (by decide) ?_
  refine lv_isub hx hb dX6_firstStuckIsland_7 ?_
  refine lv_istore_n (lv' := [(2, .int ((σ 48 0) - (1 : Int32))), (1, .int (-1 : Int32)), (0, .ref (a 0))]) hx hb dX6_firstStuckIsland_8 rfl hl (by decide) rfl (fun ls hl => ?_)
  exact l9  FU (-1 : Int32) ((σ 48 0) - (1 : Int32)) _ _ _ h hz (lv_sub hl [2, 1, 0] rfl)
def fX6_mends (σ : St)  : Option (Int32 × St) :=
  (bd1 (fX6_firstStuck σ (2 : Int32) (0 : Int32)) fun r1 => (if r1 = (-1 : Int32) then ((bd1 (fX6_firstStuck σ (1 : Int32) (0 : Int32)) fun r5 => (if r5 = (-1 : Int32) then ((bd1 (fX6_firstStuck σ (2 : Int32) (1 : Int32)) fun r9 => (if r9 = (-1 : Int32) then ((bd1 (fX6_firstStuckIsland σ ) fun r13 => (if r13 = (-1 : Int32) then (some ((0 : Int32), σ)) else ((ck (¬ (r13 < 0 ∨ 12 ≤ Int32.toNatClampNeg r13)) <| (ck (¬ (r13 < 0 ∨ 12 ≤ Int32.toNatClampNeg r13)) <| (bd2 (fX6_putIsland σ ((σ 13) (Int32.toNatClampNeg r13)) ((σ 8) (Int32.toNatClampNeg r13)) (3 : Int32) r13) fun r19 s20 => (if r19 = 0 then (some ((0 : Int32), s20)) else (some ((1 : Int32), s20)))))))))) else ((ck (¬ (r9 < 0 ∨ 24 ≤ Int32.toNatClampNeg r9)) <| (ck (¬ (r9 < 0 ∨ 24 ≤ Int32.toNatClampNeg r9)) <| (bd2 (fX6_putIsland σ ((σ 12) (Int32.toNatClampNeg r9)) ((σ 3) (Int32.toNatClampNeg r9)) (2 : Int32) r9) fun r25 s26 => (ck (r25 = 0 ∨ r25 = 1) <| some (r25, s26))))))))) else ((bd2 (fX6_putConstant σ r5) fun r29 s30 => (ck (r29 = 0 ∨ r29 = 1) <| some (r29, s30))))))) else ((ck (¬ (r1 < 0 ∨ 24 ≤ Int32.toNatClampNeg r1)) <| some ((1 : Int32), (sa σ 7 (Int32.toNatClampNeg r1) (1 : Int32)))))))
abbrev rmX6_mends : Room := { frames := 5, cells := 0, slots := 0, locals := 117 }
set_option maxHeartbeats 4000000 in
set_option maxRecDepth 100000 in
theorem KX6_mends {l : Launch} {dC : Nat → ClassId} {dI : Nat → Nat → Nat} {cI cZ : ClassId} {a : Nat → Nat} {hh : Int64} {σ : St}  {r : Int32} {σ2 : St} (hok : okA 18 a) (h : fX6_mends σ  = some (r, σ2)) (sz : Nat) : Met l yX6_mends wsX6_mends rmX6_mends (Pz (dC, dI) cI cZ (wdM cI cZ a hh σ) sz [.ref (a 0)]) (Qzi (dC, dI) 18 a (wdM cI cZ a hh σ2) sz r) 0 0 (aN 18 a sz) := by
  refine Met.ofW (cc := cX6_mends) (maxL := 2) (ret := (some .boolean)) (by decide) rfl ?_
  intro p e s m args below meth c s₁ B hml hv
  obtain ⟨hav, hsz, hP, hKK⟩ := hv
  have hx := B.exec
  have hb := B.bytes
  have hr := B.returns
  have hts := atoms_spec (ws := wsX6_mends) B.pre
  have hown : s.vm.findClass RX6 = some m.cls := findClass_of_methodNamed B.named
  have hlocks := B.notSynchronized
  have CF : CallFix p m c cX6_mends 2 s args wsX6_mends RX6 := ⟨hx, hb, hml, hown, hts⟩
  have hz : zz (dC, dI) 18 a (wdM cI cZ a hh σ) s.heap s.heap [] := ⟨hP, va_S.rf⟩
  have hl := lv_entry [.ref (a 0)] (n := 2) (Nat.le_of_ble_eq_true rfl)
  have hen : entryFrame m args 2 = entryFrame m ([.ref (a 0)] : List Value).toArray 2 := by rw [hav]
  rw [hen, lg_entry_eq]
  generalize (lg_sl [.ref (a 0)] ++ List.replicate (2 - (lg_sl [.ref (a 0)]).length) Slot.unset).toArray = ls at hl ⊢
  have hl : lv_has ls 2 [(0, .ref (a 0))] := hl
  have eR : (headSpec wsX6_mends rmX6_mends).room = rmX6_mends := rfl
  rw [eR]
  have rt : ∀ (v : Int32) (t : St) (pc : Nat) (H : Heap) (locs : List Loc) (ls : Array Slot), decode cX6_mends pc = .ok (.ireturn, 1) → some (v, t) = some (r, σ2) → zz (dC, dI) 18 a (wdM cI cZ a hh t) s.heap H locs → (v = 0 ∨ v = 1) → W p l e rmX6_mends s m args below meth c H locs 0 0 (MQ below (Qzi (dC, dI) 18 a (wdM cI cZ a hh σ2) sz r) args s 0 0 (aN 18 a sz)) (F0 m pc ls [.int v]) := by
    intro v t pc H locs ls hd h hz hv
    cases h
    exact zzret hsz hx hb hr hlocks hv hz hd
  generalize (MQ below (Qzi (dC, dI) 18 a (wdM cI cZ a hh σ2) sz r) args s 0 0 (aN 18 a sz)) = Q at rt ⊢
  unfold fX6_mends at h
  refine lv_aload_n hx hb dX6_mends_0 rfl (lv_at hl 0 rfl) ?_
  refine lv_iconst (v := (2 : Int32)) hx hb dX6_mends_1 (by decide) ?_
  refine lv_iconst (v := (0 : Int32)) hx hb dX6_mends_2 (by decide) ?_
  obtain ⟨r1, e3, h⟩ := bd1_e h
  refine zcallVi (As := [.int (2 : Int32), .int (0 : Int32)]) (rest := []) CF hKK (KX6_firstStuck (dC := dC) (dI := dI) (cI := cI) (cZ := cZ) (a := a) hok e3) (cwV 2 hts gX6_mends_X6_firstStuck rfl rfl rfl cdX6_firstStuck ⟨Nat.le_of_ble_eq_true rfl, Nat.le_of_ble_eq_true rfl⟩) 0 6 rfl rfl hz rfl hl.1 rfl (Nat.le_of_ble_eq_true rfl) dX6_mends_3 ⟨Nat.le_refl _, Nat.le_refl _⟩ (fun H locs hz => ?_)
  refine lv_istore_n (lv' := [(1, .int r1), (0, .ref (a 0))]) hx hb dX6_mends_6 rfl hl (by decide) rfl (fun ls hl => ?_)
  refine lv_iload_n hx hb dX6_mends_7 rfl (lv_at hl 0 rfl) ?_
  refine lv_iconst (v := (-1 : Int32)) hx hb dX6_mends_8 (by decide) ?_
  refine lv_icmp_eq (tgt := 21) hx hb dX6_mends_9 (by decide) (fun c4 => ?_) (fun c4 => ?_)
  · replace h := ite_t c4 h
    refine lv_aload_n hx hb dX6_mends_21 rfl (lv_at hl 1 rfl) ?_
    refine lv_iconst (v := (1 : Int32)) hx hb dX6_mends_22 (by decide) ?_
    refine lv_iconst (v := (0 : Int32)) hx hb dX6_mends_23 (by decide) ?_
    obtain ⟨r5, e7, h⟩ := bd1_e h
    refine zcallVi (As := [.int (1 : Int32), .int (0 : Int32)]) (rest := []) CF hKK (KX6_firstStuck (dC := dC) (dI := dI) (cI := cI) (cZ := cZ) (a := a) hok e7) (cwV 2 hts gX6_mends_X6_firstStuck rfl rfl rfl cdX6_firstStuck ⟨Nat.le_of_ble_eq_true rfl, Nat.le_of_ble_eq_true rfl⟩) 0 6 rfl rfl hz rfl hl.1 rfl (Nat.le_of_ble_eq_true rfl) dX6_mends_24 ⟨Nat.le_refl _, Nat.le_refl _⟩ (fun H locs hz => ?_)
    refine lv_istore_n (lv' := [(1, .int r5), (0, .ref (a 0))]) hx hb dX6_mends_27 rfl hl (by decide) rfl (fun ls hl => ?_)
    refine lv_iload_n hx hb dX6_mends_28 rfl (lv_at hl 0 rfl) ?_
    refine lv_iconst (v := (-1 : Int32)) hx hb dX6_mends_29 (by decide) ?_
    refine lv_icmp_eq (tgt := 39) hx hb dX6_mends_30 (by decide) (fun c8 => ?_) (fun c8 => ?_)
    · replace h := ite_t c8 h
      refine lv_aload_n hx hb dX6_mends_39 rfl (lv_at hl 1 rfl) ?_
      refine lv_iconst (v := (2 : Int32)) hx hb dX6_mends_40 (by decide) ?_
      refine lv_iconst (v := (1 : Int32)) hx hb dX6_mends_41 (by decide) ?_
      obtain ⟨r9, e11, h⟩ := bd1_e h
      refine zcallVi (As := [.int (2 : Int32), .int (1 : Int32)]) (rest := []) CF hKK (KX6_firstStuck (dC := dC) (dI := dI) (cI := cI) (cZ := cZ) (a := a) hok e11) (cwV 2 hts gX6_mends_X6_firstStuck rfl rfl rfl cdX6_firstStuck ⟨Nat.le_of_ble_eq_true rfl, Nat.le_of_ble_eq_true rfl⟩) 0 6 rfl rfl hz rfl hl.1 rfl (Nat.le_of_ble_eq_true rfl) dX6_mends_42 ⟨Nat.le_refl _, Nat.le_refl _⟩ (fun H locs hz => ?_)
      refine lv_istore_n (lv' := [(1, .int r9), (0, .ref (a 0))]) hx hb dX6_mends_45 rfl hl (by decide) rfl (fun ls hl => ?_)
      refine lv_iload_n hx hb dX6_mends_46 rfl (lv_at hl 0 rfl) ?_
      refine lv_iconst (v := (-1 : Int32)) hx hb dX6_mends_47 (by decide) ?_
      refine lv_icmp_eq (tgt := 70) hx hb dX6_mends_48 (by decide) (fun c12 => ?_) (fun c12 => ?_)
      · replace h := ite_t c12 h
        refine lv_aload_n hx hb dX6_mends_70 rfl (lv_at hl 1 rfl) ?_
        obtain ⟨r13, e15, h⟩ := bd1_e h
        refine zcallVi (As := []) (rest := []) CF hKK (KX6_firstStuckIsland (dC := dC) (dI := dI) (cI := cI) (cZ := cZ) (a := a) hok e15) (cwV 0 hts gX6_mends_X6_firstStuckIsland rfl rfl rfl cdX6_firstStuckIsland ⟨Nat.le_of_ble_eq_true rfl, Nat.le_of_ble_eq_true rfl⟩) 0 6 rfl rfl hz rfl hl.1 rfl (Nat.le_of_ble_eq_true rfl) dX6_mends_71 ⟨Nat.le_refl _, Nat.le_refl _⟩ (fun H locs hz => ?_)
        refine lv_istore_n (lv' := [(1, .int r13), (0, .ref (a 0))]) hx hb dX6_mends_74 rfl hl (by decide) rfl (fun ls hl => ?_)
        refine lv_iload_n hx hb dX6_mends_75 rfl (lv_at hl 0 rfl) ?_
        refine lv_iconst (v := (-1 : Int32)) hx hb dX6_mends_76 (by decide) ?_
        refine lv_icmp_eq (tgt := 105) hx hb dX6_mends_77 (by decide) (fun c16 => ?_) (fun c16 => ?_)
        · replace h := ite_t c16 h
          refine lv_iconst (v := (0 : Int32)) hx hb dX6_mends_105 (by decide) ?_
          exact rt (0 : Int32) σ 106 _ _ _ dX6_mends_106 h hz (Or.inl rfl)
        · replace h := ite_f c16 h
          refine lv_aload_n hx hb dX6_mends_80 rfl (lv_at hl 1 rfl) ?_
          refine lv_aload_n hx hb dX6_mends_81 rfl (lv_at hl 1 rfl) ?_
          refine va_get (v := .ref (a 13)) hx hb hts inX6_mends_X6 hown hKK.1 hz.1 0 rfl rfl 22 (by decide) (hts _ (List.mem_of_getElem? (i := 4) rfl)) (fun _ h9 => h9) rfl dX6_mends_82 ?_
          refine lv_iload_n hx hb dX6_mends_85 rfl (lv_at hl 0 rfl) ?_
          obtain ⟨c17, h⟩ := ck_e h
          refine va_iald (f := (σ 13)) hx hb hKK.1 hz.1 13 0 rfl rfl c17 dX6_mends_86 ?_
          refine lv_aload_n hx hb dX6_mends_87 rfl (lv_at hl 1 rfl) ?_
          refine va_get (v := .ref (a 8)) hx hb hts inX6_mends_X6 hown hKK.1 hz.1 0 rfl rfl 16 (by decide) (hts _ (List.mem_of_getElem? (i := 5) rfl)) (fun _ h9 => h9) rfl dX6_mends_88 ?_
          refine lv_iload_n hx hb dX6_mends_91 rfl (lv_at hl 0 rfl) ?_
          obtain ⟨c18, h⟩ := ck_e h
          refine va_iald (f := (σ 8)) hx hb hKK.1 hz.1 8 0 rfl rfl c18 dX6_mends_92 ?_
          refine lv_iconst (v := (3 : Int32)) hx hb dX6_mends_93 (by decide) ?_
          refine lv_iload_n hx hb dX6_mends_94 rfl (lv_at hl 0 rfl) ?_
          obtain ⟨r19, s20, e21, h⟩ := bd2_e h
          refine zcallVi (As := [.int ((σ 13) (Int32.toNatClampNeg r13)), .int ((σ 8) (Int32.toNatClampNeg r13)), .int (3 : Int32), .int r13]) (rest := []) CF hKK (KX6_putIsland (dC := dC) (dI := dI) (cI := cI) (cZ := cZ) (a := a) hok e21) (cwV 4 hts gX6_mends_X6_putIsland rfl rfl rfl cdX6_putIsland ⟨Nat.le_of_ble_eq_true rfl, Nat.le_of_ble_eq_true rfl⟩) 0 6 rfl rfl hz rfl hl.1 rfl (Nat.le_of_ble_eq_true rfl) dX6_mends_95 ⟨Nat.le_refl _, Nat.le_refl _⟩ (fun H locs hz => ?_)
          refine lv_if_eq (tgt := 105) hx hb dX6_mends_98 (by decide) (fun c22 => ?_) (fun c22 => ?_)
          · replace h := ite_t c22 h
            refine lv_iconst (v := (0 : Int32)) hx hb dX6_mends_105 (by decide) ?_
            exact rt (0 : Int32) s20 106 _ _ _ dX6_mends_106 h hz (Or.inl rfl)
          · replace h := ite_f c22 h
            refine lv_iconst (v := (1 : Int32)) hx hb dX6_mends_101 (by decide) ?_
            refine lv_goto (tgt := 106) hx hb dX6_mends_102 (by decide) ?_
            exact rt (1 : Int32) s20 106 _ _ _ dX6_mends_106 h hz (Or.inr rfl)
      · replace h := ite_f c12 h
        refine lv_aload_n hx hb dX6_mends_51 rfl (lv_at hl 1 rfl) ?_
        refine lv_aload_n hx hb dX6_mends_52 rfl (lv_at hl 1 rfl) ?_
        refine va_get (v := .ref (a 12)) hx hb hts inX6_mends_X6 hown hKK.1 hz.1 0 rfl rfl 21 (by decide) (hts _ (List.mem_of_getElem? (i := 2) rfl)) (fun _ h9 => h9) rfl dX6_mends_53 ?_
        refine lv_iload_n hx hb dX6_mends_56 rfl (lv_at hl 0 rfl) ?_
        obtain ⟨c23, h⟩ := ck_e h
        refine va_iald (f := (σ 12)) hx hb hKK.1 hz.1 12 0 rfl rfl c23 dX6_mends_57 ?_
        refine lv_aload_n hx hb dX6_mends_58 rfl (lv_at hl 1 rfl) ?_
        refine va_get (v := .ref (a 3)) hx hb hts inX6_mends_X6 hown hKK.1 hz.1 0 rfl rfl 4 (by decide) (hts _ (List.mem_of_getElem? (i := 3) rfl)) (fun _ h9 => h9) rfl dX6_mends_59 ?_
        refine lv_iload_n hx hb dX6_mends_62 rfl (lv_at hl 0 rfl) ?_
        obtain ⟨c24, h⟩ := ck_e h
        refine va_iald (f := (σ 3)) hx hb hKK.1 hz.1 3 0 rfl rfl c24 dX6_mends_63 ?_
        refine lv_iconst (v := (2 : Int32)) hx hb dX6_mends_64 (by decide) ?_
        refine lv_iload_n hx hb dX6_mends_65 rfl (lv_at hl 0 rfl) ?_
        obtain ⟨r25, s26, e27, h⟩ := bd2_e h
        refine zcallVi (As := [.int ((σ 12) (Int32.toNatClampNeg r9)), .int ((σ 3) (Int32.toNatClampNeg r9)), .int (2 : Int32), .int r9]) (rest := []) CF hKK (KX6_putIsland (dC := dC) (dI := dI) (cI := cI) (cZ := cZ) (a := a) hok e27) (cwV 4 hts gX6_mends_X6_putIsland rfl rfl rfl cdX6_putIsland ⟨Nat.le_of_ble_eq_true rfl, Nat.le_of_ble_eq_true rfl⟩) 0 6 rfl rfl hz rfl hl.1 rfl (Nat.le_of_ble_eq_true rfl) dX6_mends_66 ⟨Nat.le_refl _, Nat.le_refl _⟩ (fun H locs hz => ?_)
        obtain ⟨c28, h⟩ := ck_e h
        exact rt r25 s26 69 _ _ _ dX6_mends_69 h hz c28
    · replace h := ite_f c8 h
      refine lv_aload_n hx hb dX6_mends_33 rfl (lv_at hl 1 rfl) ?_
      refine lv_iload_n hx hb dX6_mends_34 rfl (lv_at hl 0 rfl) ?_
      obtain ⟨r29, s30, e31, h⟩ := bd2_e h
      refine zcallVi (As := [.int r5]) (rest := []) CF hKK (KX6_putConstant (dC := dC) (dI := dI) (cI := cI) (cZ := cZ) (a := a) hok e31) (cwV 1 hts gX6_mends_X6_putConstant rfl rfl rfl cdX6_putConstant ⟨Nat.le_of_ble_eq_true rfl, Nat.le_of_ble_eq_true rfl⟩) 0 6 rfl rfl hz rfl hl.1 rfl (Nat.le_of_ble_eq_true rfl) dX6_mends_35 ⟨Nat.le_refl _, Nat.le_refl _⟩ (fun H locs hz => ?_)
      obtain ⟨c32, h⟩ := ck_e h
      exact rt r29 s30 38 _ _ _ dX6_mends_38 h hz c32
  · replace h := ite_f c4 h
    refine lv_aload_n hx hb dX6_mends_12 rfl (lv_at hl 1 rfl) ?_
    refine va_get (v := .ref (a 7)) hx hb hts inX6_mends_X6 hown hKK.1 hz.1 0 rfl rfl 14 (by decide) (hts _ (List.mem_of_getElem? (i := 1) rfl)) (fun _ h9 => h9) rfl dX6_mends_13 ?_
    refine lv_iload_n hx hb dX6_mends_16 rfl (lv_at hl 0 rfl) ?_
    refine lv_iconst (v := (1 : Int32)) hx hb dX6_mends_17 (by decide) ?_
    obtain ⟨c33, h⟩ := ck_e h
    refine zzast (f := σ 7) (w' := wdM cI cZ a hh (sa σ 7 (Int32.toNatClampNeg r1) (1 : Int32))) hx hb hKK hok wkM hz 7 rfl c33 (x' := (1 : Int32)) (by decide) setMa_7 dX6_mends_18 (fun H locs hz => ?_)
    refine lv_iconst (v := (1 : Int32)) hx hb dX6_mends_19 (by decide) ?_
    exact rt (1 : Int32) (sa σ 7 (Int32.toNatClampNeg r1) (1 : Int32)) 20 _ _ _ dX6_mends_20 h hz (Or.inr rfl)
def fX6_placeAll_s66 (k66 : St → Int32 → Option (St)) (σ : St) (y1 : Int32) : Option (St) :=
  (if y1 = 0 then (some σ) else ((bd1 (fX6_layAll (si σ 52 ((σ 52 0) + (1 : Int32))) ) fun s5 => (bd2 (fX6_mends s5 ) fun r7 s8 => k66 s8 r7))))
def fX6_placeAll_l66  : Nat → St → Int32 → Option (St) :=
  itr (fX6_placeAll_s66 ) (fun _ _ => none)
def fX6_placeAll_s32 (k32 : St → Int32 → Option (St)) (σ : St) (y1 : Int32) : Option (St) :=
  (if (σ 41 0) ≤ y1 then ((if (σ 41 0) ≤ 0 then (fX6_placeAll_l66  FU σ (0 : Int32)) else (fX6_placeAll_l66  FU σ (1 : Int32)))) else ((ck (¬ (y1 < 0 ∨ 24 ≤ Int32.toNatClampNeg y1)) <| k32 (sa σ 7 (Int32.toNatClampNeg y1) (0 : Int32)) (y1 + (1 : Int32)))))
def fX6_placeAll_l32  : Nat → St → Int32 → Option (St) :=
  itr (fX6_placeAll_s32 ) (fun _ _ => none)
def fX6_placeAll (σ : St)  : Option (St) :=
  fX6_placeAll_l32  FU (si (si (si (si (si (si σ 48 (0 : Int32)) 49 (0 : Int32)) 52 (0 : Int32)) 53 (1 : Int32)) 54 (0 : Int32)) 55 (-1 : Int32)) (0 : Int32)
abbrev rmX6_placeAll : Room := { frames := 6, cells := 0, slots := 0, locals := 138 }
set_option maxHeartbeats 4000000 in
set_option maxRecDepth 100000 in
theorem KX6_placeAll {l : Launch} {dC : Nat → ClassId} {dI : Nat → Nat → Nat} {cI cZ : ClassId} {a : Nat → Nat} {hh : Int64} {σ : St}  {σ2 : St} (hok : okA 18 a) (h : fX6_placeAll σ  = some σ2) (sz : Nat) : Met l yX6_placeAll wsX6_placeAll rmX6_placeAll (Pz (dC, dI) cI cZ (wdM cI cZ a hh σ) sz [.ref (a 0)]) (Qzv (dC, dI) 18 a (wdM cI cZ a hh σ2) sz) 0 0 (aN 18 a sz) := by
  refine Met.ofW (cc := cX6_placeAll) (maxL := 2) (ret := none) (by decide) rfl ?_
  intro p e s m args below meth c s₁ B hml hv
  obtain ⟨hav, hsz, hP, hKK⟩ := hv
  have hx := B.exec
  have hb := B.bytes
  have hr := B.returns
  have hts := atoms_spec (ws := wsX6_placeAll) B.pre
  have hown : s.vm.findClass RX6 = some m.cls := findClass_of_methodNamed B.named
  have hlocks := B.notSynchronized
  have CF : CallFix p m c cX6_placeAll 2 s args wsX6_placeAll RX6 := ⟨hx, hb, hml, hown, hts⟩
  have hz : zz (dC, dI) 18 a (wdM cI cZ a hh σ) s.heap s.heap [] := ⟨hP, va_S.rf⟩
  have hl := lv_entry [.ref (a 0)] (n := 2) (Nat.le_of_ble_eq_true rfl)
  have hen : entryFrame m args 2 = entryFrame m ([.ref (a 0)] : List Value).toArray 2 := by rw [hav]
  rw [hen, lg_entry_eq]
  generalize (lg_sl [.ref (a 0)] ++ List.replicate (2 - (lg_sl [.ref (a 0)]).length) Slot.unset).toArray = ls at hl ⊢
  have hl : lv_has ls 2 [(0, .ref (a 0))] := hl
  have eR : (headSpec wsX6_placeAll rmX6_placeAll).room = rmX6_placeAll := rfl
  rw [eR]
  have rt : ∀ (t : St) (pc : Nat) (H : Heap) (locs : List Loc) (ls : Array Slot), decode cX6_placeAll pc = .ok (.return_, 1) → some t = some σ2 → zz (dC, dI) 18 a (wdM cI cZ a hh t) s.heap H locs → W p l e rmX6_placeAll s m args below meth c H locs 0 0 (MQ below (Qzv (dC, dI) 18 a (wdM cI cZ a hh σ2) sz) args s 0 0 (aN 18 a sz)) (F0 m pc ls []) := by
    intro t pc H locs ls hd h hz
    cases h
    exact zvret hsz hx hb hr hlocks hz hd
  generalize (MQ below (Qzv (dC, dI) 18 a (wdM cI cZ a hh σ2) sz) args s 0 0 (aN 18 a sz)) = Q at rt ⊢
  have s66 : ∀ (k66 : St → Int32 → Option (St)) (hk66 : (∀ (σ : St) (y1 : Int32) (H : Heap) (locs : List Loc) (ls : Array Slot), k66 σ y1 = some σ2 → zz (dC, dI) 18 a (wdM cI cZ a hh σ) s.heap H locs → lv_has ls 2 [(0, .ref (a 0)), (1, .int y1)] → W p l e rmX6_placeAll s m args below meth c H locs 0 0 Q (F0 m 66 ls []))) (σ : St) (y1 : Int32) (H : Heap) (locs : List Loc) (ls : Array Slot), fX6_placeAll_s66 k66 σ y1 = some σ2 → zz (dC, dI) 18 a (wdM cI cZ a hh σ) s.heap H locs → lv_has ls 2 [(0, .ref (a 0)), (1, .int y1)] → W p l e rmX6_placeAll s m args below meth c H locs 0 0 Q (F0 m 66 ls []) := by
    intro k66 hk66 σ y1 H locs ls h hz hl
    unfold fX6_placeAll_s66 at h
    refine lv_iload_n hx hb dX6_placeAll_66 rfl (lv_at hl 1 rfl) ?_
    refine lv_if_eq (tgt := 92) hx hb dX6_placeAll_67 (by decide) (fun c3 => ?_) (fun c3 => ?_)
    · replace h := ite_t c3 h
      exact rt σ 92 _ _ _ dX6_placeAll_92 h hz
    · replace h := ite_f c3 h
      refine lv_aload_n hx hb dX6_placeAll_70 rfl (lv_at hl 0 rfl) ?_
      refine lv_dup hx hb dX6_placeAll_71 rfl ?_
      refine va_get (v := .int (σ 52 0)) hx hb hts inX6_placeAll_X6 hown hKK.1 hz.1 0 rfl rfl 29 (by decide) (hts _ (List.mem_of_getElem? (i := 3) rfl)) (fun _ h9 => h9) rfl dX6_placeAll_72 ?_
      refine lv_iconst (v := (1 : Int32)) hx hb dX6_placeAll_75 (by decide) ?_
      refine lv_iadd hx hb dX6_placeAll_76 ?_
      refine zput (ty := .int) (w' := wdM cI cZ a hh (si σ 52 ((σ 52 0) + (1 : Int32)))) hx hb hts inX6_placeAll_X6 tyX6 tyX6_ok nmX6 hown hKK hok wkM hz 0 rfl rfl 29 (by decide) (hts _ (List.mem_of_getElem? (i := 3) rfl)) (fun _ h9 => h9) rfl rfl rfl rfl (Nat.le_of_ble_eq_true rfl) setMi_52 dX6_placeAll_77 (fun H locs hz => ?_)
      refine lv_aload_n hx hb dX6_placeAll_80 rfl (lv_at hl 0 rfl) ?_
      obtain ⟨s5, e6, h⟩ := bd1_e h
      refine zcallVv (As := []) (rest := []) CF hKK (KX6_layAll (dC := dC) (dI := dI) (cI := cI) (cZ := cZ) (a := a) hok e6) (cwV 0 hts gX6_placeAll_X6_layAll rfl rfl rfl cdX6_layAll ⟨Nat.le_of_ble_eq_true rfl, Nat.le_of_ble_eq_true rfl⟩) 0 6 rfl rfl hz rfl hl.1 rfl (Nat.le_of_ble_eq_true rfl) dX6_placeAll_81 ⟨Nat.le_refl _, Nat.le_refl _⟩ (fun H locs hz => ?_)
      refine lv_aload_n hx hb dX6_placeAll_84 rfl (lv_at hl 0 rfl) ?_
      obtain ⟨r7, s8, e9, h⟩ := bd2_e h
      refine zcallVi (As := []) (rest := []) CF hKK (KX6_mends (dC := dC) (dI := dI) (cI := cI) (cZ := cZ) (a := a) hok e9) (cwV 0 hts gX6_placeAll_X6_mends rfl rfl rfl cdX6_mends ⟨Nat.le_of_ble_eq_true rfl, Nat.le_of_ble_eq_true rfl⟩) 0 6 rfl rfl hz rfl hl.1 rfl (Nat.le_of_ble_eq_true rfl) dX6_placeAll_85 ⟨Nat.le_refl _, Nat.le_refl _⟩ (fun H locs hz => ?_)
      refine lv_istore_n (lv' := [(1, .int r7), (0, .ref (a 0))]) hx hb dX6_placeAll_88 rfl hl (by decide) rfl (fun ls hl => ?_)
      refine lv_goto (tgt := 66) hx hb dX6_placeAll_89 (by decide) ?_
      exact hk66 s8 r7 _ _ _ h hz (lv_sub hl [1, 0] rfl)
  have l66 : ∀  (n : Nat), ∀ (σ : St) (y1 : Int32) (H : Heap) (locs : List Loc) (ls : Array Slot), fX6_placeAll_l66  n σ y1 = some σ2 → zz (dC, dI) 18 a (wdM cI cZ a hh σ) s.heap H locs → lv_has ls 2 [(0, .ref (a 0)), (1, .int y1)] → W p l e rmX6_placeAll s m args below meth c H locs 0 0 Q (F0 m 66 ls []) := by
    intro  n
    induction n with
    | zero => intro σ y1 H locs ls h; exact nomatch h
    | succ n ih => exact s66  (fX6_placeAll_l66  n) ih
  have s32 : ∀ (k32 : St → Int32 → Option (St)) (hk32 : (∀ (σ : St) (y1 : Int32) (H : Heap) (locs : List Loc) (ls : Array Slot), k32 σ y1 = some σ2 → zz (dC, dI) 18 a (wdM cI cZ a hh σ) s.heap H locs → lv_has ls 2 [(0, .ref (a 0)), (1, .int y1)] → W p l e rmX6_placeAll s m args below meth c H locs 0 0 Q (F0 m 32 ls []))) (σ : St) (y1 : Int32) (H : Heap) (locs : List Loc) (ls : Array Slot), fX6_placeAll_s32 k32 σ y1 = some σ2 → zz (dC, dI) 18 a (wdM cI cZ a hh σ) s.heap H locs → lv_has ls 2 [(0, .ref (a 0)), (1, .int y1)] → W p l e rmX6_placeAll s m args below meth c H locs 0 0 Q (F0 m 32 ls []) := by
    intro k32 hk32 σ y1 H locs ls h hz hl
    unfold fX6_placeAll_s32 at h
    refine lv_iload_n hx hb dX6_placeAll_32 rfl (lv_at hl 1 rfl) ?_
    refine lv_aload_n hx hb dX6_placeAll_33 rfl (lv_at hl 0 rfl) ?_
    refine va_get (v := .int (σ 41 0)) hx hb hts inX6_placeAll_X6 hown hKK.1 hz.1 0 rfl rfl 2 (by decide) (hts _ (List.mem_of_getElem? (i := 7) rfl)) (fun _ h9 => h9) rfl dX6_placeAll_34 ?_
    refine lv_icmp_ge (tgt := 53) hx hb dX6_placeAll_37 (by decide) (fun c1 => ?_) (fun c1 => ?_)
    · replace h := ite_t c1 h
      refine lv_aload_n hx hb dX6_placeAll_53 rfl (lv_at hl 0 rfl) ?_
      refine va_get (v := .int (σ 41 0)) hx hb hts inX6_placeAll_X6 hown hKK.1 hz.1 0 rfl rfl 2 (by decide) (hts _ (List.mem_of_getElem? (i := 7) rfl)) (fun _ h9 => h9) rfl dX6_placeAll_54 ?_
      refine lv_if_le (tgt := 64) hx hb dX6_placeAll_57 (by decide) (fun c2 => ?_) (fun c2 => ?_)
      · replace h := ite_t c2 h
        refine lv_iconst (v := (0 : Int32)) hx hb dX6_placeAll_64 (by decide) ?_
        refine lv_istore_n (lv' := [(1, .int (0 : Int32)), (0, .ref (a 0))]) hx hb dX6_placeAll_65 rfl hl (by decide) rfl (fun ls hl => ?_)
        exact l66  FU σ (0 : Int32) _ _ _ h hz (lv_sub hl [1, 0] rfl)
      · replace h := ite_f c2 h
        refine lv_iconst (v := (1 : Int32)) hx hb dX6_placeAll_60 (by decide) ?_
        refine lv_goto (tgt := 65) hx hb dX6_placeAll_61 (by decide) ?_
        refine lv_istore_n (lv' := [(1, .int (1 : Int32)), (0, .ref (a 0))]) hx hb dX6_placeAll_65 rfl hl (by decide) rfl (fun ls hl => ?_)
        exact l66  FU σ (1 : Int32) _ _ _ h hz (lv_sub hl [1, 0] rfl)
    · replace h := ite_f c1 h
      refine lv_aload_n hx hb dX6_placeAll_40 rfl (lv_at hl 0 rfl) ?_
      refine va_get (v := .ref (a 7)) hx hb hts inX6_placeAll_X6 hown hKK.1 hz.1 0 rfl rfl 14 (by decide) (hts _ (List.mem_of_getElem? (i := 8) rfl)) (fun _ h9 => h9) rfl dX6_placeAll_41 ?_
      refine lv_iload_n hx hb dX6_placeAll_44 rfl (lv_at hl 1 rfl) ?_
      refine lv_iconst (v := (0 : Int32)) hx hb dX6_placeAll_45 (by decide) ?_
      obtain ⟨c10, h⟩ := ck_e h
      refine zzast (f := σ 7) (w' := wdM cI cZ a hh (sa σ 7 (Int32.toNatClampNeg y1) (0 : Int32))) hx hb hKK hok wkM hz 7 rfl c10 (x' := (0 : Int32)) (by decide) setMa_7 dX6_placeAll_46 (fun H locs hz => ?_)
      refine lv_iinc (v := (y1 + (1 : Int32))) (lv' := [(1, .int (y1 + (1 : Int32))), (0, .ref (a 0))]) hx hb dX6_placeAll_47 hl (k := 1) rfl rfl (by decide) rfl (fun ls hl => ?_)
      refine lv_goto (tgt := 32) hx hb dX6_placeAll_50 (by decide) ?_
      exact hk32 (sa σ 7 (Int32.toNatClampNeg y1) (0 : Int32)) (y1 + (1 : Int32)) _ _ _ h hz (lv_sub hl [1, 0] rfl)
  have l32 : ∀  (n : Nat), ∀ (σ : St) (y1 : Int32) (H : Heap) (locs : List Loc) (ls : Array Slot), fX6_placeAll_l32  n σ y1 = some σ2 → zz (dC, dI) 18 a (wdM cI cZ a hh σ) s.heap H locs → lv_has ls 2 [(0, .ref (a 0)), (1, .int y1)] → W p l e rmX6_placeAll s m args below meth c H locs 0 0 Q (F0 m 32 ls []) := by
    intro  n
    induction n with
    | zero => intro σ y1 H locs ls h; exact nomatch h
    | succ n ih => exact s32  (fX6_placeAll_l32  n) ih
  unfold fX6_placeAll at h
  refine lv_aload_n hx hb dX6_placeAll_0 rfl (lv_at hl 0 rfl) ?_
  refine lv_iconst (v := (0 : Int32)) hx hb dX6_placeAll_1 (by decide) ?_
  refine zput (ty := .int) (w' := wdM cI cZ a hh (si σ 48 (0 : Int32))) hx hb hts inX6_placeAll_X6 tyX6 tyX6_ok nmX6 hown hKK hok wkM hz 0 rfl rfl 15 (by decide) (hts _ (List.mem_of_getElem? (i := 1) rfl)) (fun _ h9 => h9) rfl rfl rfl rfl (Nat.le_of_ble_eq_true rfl) setMi_48 dX6_placeAll_2 (fun H locs hz => ?_)
  refine lv_aload_n hx hb dX6_placeAll_5 rfl (lv_at hl 0 rfl) ?_
  refine lv_iconst (v := (0 : Int32)) hx hb dX6_placeAll_6 (by decide) ?_
  refine zput (ty := .int) (w' := wdM cI cZ a hh (si (si σ 48 (0 : Int32)) 49 (0 : Int32))) hx hb hts inX6_placeAll_X6 tyX6 tyX6_ok nmX6 hown hKK hok wkM hz 0 rfl rfl 18 (by decide) (hts _ (List.mem_of_getElem? (i := 2) rfl)) (fun _ h9 => h9) rfl rfl rfl rfl (Nat.le_of_ble_eq_true rfl) setMi_49 dX6_placeAll_7 (fun H locs hz => ?_)
  refine lv_aload_n hx hb dX6_placeAll_10 rfl (lv_at hl 0 rfl) ?_
  refine lv_iconst (v := (0 : Int32)) hx hb dX6_placeAll_11 (by decide) ?_
  refine zput (ty := .int) (w' := wdM cI cZ a hh (si (si (si σ 48 (0 : Int32)) 49 (0 : Int32)) 52 (0 : Int32))) hx hb hts inX6_placeAll_X6 tyX6 tyX6_ok nmX6 hown hKK hok wkM hz 0 rfl rfl 29 (by decide) (hts _ (List.mem_of_getElem? (i := 3) rfl)) (fun _ h9 => h9) rfl rfl rfl rfl (Nat.le_of_ble_eq_true rfl) setMi_52 dX6_placeAll_12 (fun H locs hz => ?_)
  refine lv_aload_n hx hb dX6_placeAll_15 rfl (lv_at hl 0 rfl) ?_
  refine lv_iconst (v := (1 : Int32)) hx hb dX6_placeAll_16 (by decide) ?_
  refine zput (ty := .boolean) (w' := wdM cI cZ a hh (si (si (si (si σ 48 (0 : Int32)) 49 (0 : Int32)) 52 (0 : Int32)) 53 (1 : Int32))) hx hb hts inX6_placeAll_X6 tyX6 tyX6_ok nmX6 hown hKK hok wkM hz 0 rfl rfl 30 (by decide) (hts _ (List.mem_of_getElem? (i := 4) rfl)) (fun _ h9 => h9) rfl rfl (by decide) (by decide) (Nat.le_of_ble_eq_true rfl) setMi_53 dX6_placeAll_17 (fun H locs hz => ?_)
  refine lv_aload_n hx hb dX6_placeAll_20 rfl (lv_at hl 0 rfl) ?_
  refine lv_iconst (v := (0 : Int32)) hx hb dX6_placeAll_21 (by decide) ?_
  refine zput (ty := .int) (w' := wdM cI cZ a hh (si (si (si (si (si σ 48 (0 : Int32)) 49 (0 : Int32)) 52 (0 : Int32)) 53 (1 : Int32)) 54 (0 : Int32))) hx hb hts inX6_placeAll_X6 tyX6 tyX6_ok nmX6 hown hKK hok wkM hz 0 rfl rfl 31 (by decide) (hts _ (List.mem_of_getElem? (i := 5) rfl)) (fun _ h9 => h9) rfl rfl rfl rfl (Nat.le_of_ble_eq_true rfl) setMi_54 dX6_placeAll_22 (fun H locs hz => ?_)
  refine lv_aload_n hx hb dX6_placeAll_25 rfl (lv_at hl 0 rfl) ?_
  refine lv_iconst (v := (-1 : Int32)) hx hb dX6_placeAll_26 (by decide) ?_
  refine zput (ty := .int) (w' := wdM cI cZ a hh (si (si (si (si (si (si σ 48 (0 : Int32)) 49 (0 : Int32)) 52 (0 : Int32)) 53 (1 : Int32)) 54 (0 : Int32)) 55 (-1 : Int32))) hx hb hts inX6_placeAll_X6 tyX6 tyX6_ok nmX6 hown hKK hok wkM hz 0 rfl rfl 32 (by decide) (hts _ (List.mem_of_getElem? (i := 6) rfl)) (fun _ h9 => h9) rfl rfl rfl rfl (Nat.le_of_ble_eq_true rfl) setMi_55 dX6_placeAll_27 (fun H locs hz => ?_)
  refine lv_iconst (v := (0 : Int32)) hx hb dX6_placeAll_30 (by decide) ?_
  refine lv_istore_n (lv' := [(1, .int (0 : Int32)), (0, .ref (a 0))]) hx hb dX6_placeAll_31 rfl hl (by decide) rfl (fun ls hl => ?_)
  exact l32  FU (si (si (si (si (si (si σ 48 (0 : Int32)) 49 (0 : Int32)) 52 (0 : Int32)) 53 (1 : Int32)) 54 (0 : Int32)) 55 (-1 : Int32)) (0 : Int32) _ _ _ h hz (lv_sub hl [1, 0] rfl)
def fX6_code_s54 (k54 : St → Int32 → Option (Int32 × St)) (σ : St) (y1 : Int32) : Option (Int32 × St) :=
  (if (σ 41 0) ≤ y1 then ((bd1 (fX6_placeAll (si (si σ 42 ((σ 42 0) + (1 : Int32))) 40 (0 : Int32)) ) fun s10 => some ((s10 41 0), s10))) else ((ck (¬ (y1 < 0 ∨ 24 ≤ Int32.toNatClampNeg y1)) <| (ck (¬ (y1 < 0 ∨ 24 ≤ Int32.toNatClampNeg y1)) <| (ck (¬ (y1 < 0 ∨ 24 ≤ Int32.toNatClampNeg y1)) <| (ck (¬ (y1 < 0 ∨ 24 ≤ Int32.toNatClampNeg y1)) <| k54 (sa (sa σ 2 (Int32.toNatClampNeg y1) ((σ 5) (Int32.toNatClampNeg y1))) 3 (Int32.toNatClampNeg y1) ((σ 6) (Int32.toNatClampNeg y1))) (y1 + (1 : Int32))))))))
def fX6_code_l54  : Nat → St → Int32 → Option (Int32 × St) :=
  itr (fX6_code_s54 ) (fun _ _ => none)
def fX6_code (σ : St)  : Option (Int32 × St) :=
  (bd2 (fX6_goAlong σ ) fun r1 s2 => (if r1 < (s2 40 0) then (some ((-1003 : Int32), s2)) else ((if (s2 45 0) = (-1 : Int32) then ((if (s2 44 0) = 0 then (some ((-1003 : Int32), s2)) else ((if ((s2 47 0) &&& ((s2 46 0) ^^^ (-1 : Int32))) = 0 then (fX6_code_l54  FU (si s2 41 (s2 44 0)) (0 : Int32)) else (some ((-1003 : Int32), s2)))))) else (some ((-1003 : Int32), s2))))))
abbrev rmX6_code : Room := { frames := 7, cells := 0, slots := 0, locals := 159 }
set_option maxHeartbeats 4000000 in
set_option maxRecDepth 100000 in
theorem KX6_code {l : Launch} {dC : Nat → ClassId} {dI : Nat → Nat → Nat} {cI cZ : ClassId} {a : Nat → Nat} {hh : Int64} {σ : St}  {r : Int32} {σ2 : St} (hok : okA 18 a) (h : fX6_code σ  = some (r, σ2)) (sz : Nat) : Met l yX6_code wsX6_code rmX6_code (Pz (dC, dI) cI cZ (wdM cI cZ a hh σ) sz [.ref (a 0)]) (Qzi (dC, dI) 18 a (wdM cI cZ a hh σ2) sz r) 0 0 (aN 18 a sz) := by
  refine Met.ofW (cc := cX6_code) (maxL := 2) (ret := (some .int)) (by decide) rfl ?_
  intro p e s m args below meth c s₁ B hml hv
  obtain ⟨hav, hsz, hP, hKK⟩ := hv
  have hx := B.exec
  have hb := B.bytes
  have hr := B.returns
  have hts := atoms_spec (ws := wsX6_code) B.pre
  have hown : s.vm.findClass RX6 = some m.cls := findClass_of_methodNamed B.named
  have hlocks := B.notSynchronized
  have CF : CallFix p m c cX6_code 2 s args wsX6_code RX6 := ⟨hx, hb, hml, hown, hts⟩
  have hz : zz (dC, dI) 18 a (wdM cI cZ a hh σ) s.heap s.heap [] := ⟨hP, va_S.rf⟩
  have hl := lv_entry [.ref (a 0)] (n := 2) (Nat.le_of_ble_eq_true rfl)
  have hen : entryFrame m args 2 = entryFrame m ([.ref (a 0)] : List Value).toArray 2 := by rw [hav]
  rw [hen, lg_entry_eq]
  generalize (lg_sl [.ref (a 0)] ++ List.replicate (2 - (lg_sl [.ref (a 0)]).length) Slot.unset).toArray = ls at hl ⊢
  have hl : lv_has ls 2 [(0, .ref (a 0))] := hl
  have eR : (headSpec wsX6_code rmX6_code).room = rmX6_code := rfl
  rw [eR]
  have rt : ∀ (v : Int32) (t : St) (pc : Nat) (H : Heap) (locs : List Loc) (ls : Array Slot), decode cX6_code pc = .ok (.ireturn, 1) → some (v, t) = some (r, σ2) → zz (dC, dI) 18 a (wdM cI cZ a hh t) s.heap H locs → W p l e rmX6_code s m args below meth c H locs 0 0 (MQ below (Qzi (dC, dI) 18 a (wdM cI cZ a hh σ2) sz r) args s 0 0 (aN 18 a sz)) (F0 m pc ls [.int v]) := by
    intro v t pc H locs ls hd h hz
    cases h
    exact ziret hsz hx hb hr hlocks hz hd
  generalize (MQ below (Qzi (dC, dI) 18 a (wdM cI cZ a hh σ2) sz r) args s 0 0 (aN 18 a sz)) = Q at rt ⊢
  have s54 : ∀ (k54 : St → Int32 → Option (Int32 × St)) (hk54 : (∀ (σ : St) (y1 : Int32) (H : Heap) (locs : List Loc) (ls : Array Slot), k54 σ y1 = some (r, σ2) → zz (dC, dI) 18 a (wdM cI cZ a hh σ) s.heap H locs → lv_has ls 2 [(0, .ref (a 0)), (1, .int y1)] → W p l e rmX6_code s m args below meth c H locs 0 0 Q (F0 m 54 ls []))) (σ : St) (y1 : Int32) (H : Heap) (locs : List Loc) (ls : Array Slot), fX6_code_s54 k54 σ y1 = some (r, σ2) → zz (dC, dI) 18 a (wdM cI cZ a hh σ) s.heap H locs → lv_has ls 2 [(0, .ref (a 0)), (1, .int y1)] → W p l e rmX6_code s m args below meth c H locs 0 0 Q (F0 m 54 ls []) := by
    intro k54 hk54 σ y1 H locs ls h hz hl
    unfold fX6_code_s54 at h
    refine lv_iload_n hx hb dX6_code_54 rfl (lv_at hl 1 rfl) ?_
    refine lv_aload_n hx hb dX6_code_55 rfl (lv_at hl 0 rfl) ?_
    refine va_get (v := .int (σ 41 0)) hx hb hts inX6_code_X6 hown hKK.1 hz.1 0 rfl rfl 2 (by decide) (hts _ (List.mem_of_getElem? (i := 6) rfl)) (fun _ h9 => h9) rfl dX6_code_56 ?_
    refine lv_icmp_ge (tgt := 92) hx hb dX6_code_59 (by decide) (fun c8 => ?_) (fun c8 => ?_)
    · replace h := ite_t c8 h
      refine lv_aload_n hx hb dX6_code_92 rfl (lv_at hl 0 rfl) ?_
      refine lv_dup hx hb dX6_code_93 rfl ?_
      refine va_get (v := .int (σ 42 0)) hx hb hts inX6_code_X6 hown hKK.1 hz.1 0 rfl rfl 5 (by decide) (hts _ (List.mem_of_getElem? (i := 11) rfl)) (fun _ h9 => h9) rfl dX6_code_94 ?_
      refine lv_iconst (v := (1 : Int32)) hx hb dX6_code_97 (by decide) ?_
      refine lv_iadd hx hb dX6_code_98 ?_
      refine zput (ty := .int) (w' := wdM cI cZ a hh (si σ 42 ((σ 42 0) + (1 : Int32)))) hx hb hts inX6_code_X6 tyX6 tyX6_ok nmX6 hown hKK hok wkM hz 0 rfl rfl 5 (by decide) (hts _ (List.mem_of_getElem? (i := 11) rfl)) (fun _ h9 => h9) rfl rfl rfl rfl (Nat.le_of_ble_eq_true rfl) setMi_42 dX6_code_99 (fun H locs hz => ?_)
      refine lv_aload_n hx hb dX6_code_102 rfl (lv_at hl 0 rfl) ?_
      refine lv_iconst (v := (0 : Int32)) hx hb dX6_code_103 (by decide) ?_
      refine zput (ty := .int) (w' := wdM cI cZ a hh (si (si σ 42 ((σ 42 0) + (1 : Int32))) 40 (0 : Int32))) hx hb hts inX6_code_X6 tyX6 tyX6_ok nmX6 hown hKK hok wkM hz 0 rfl rfl 0 (by decide) (hts _ (List.mem_of_getElem? (i := 1) rfl)) (fun _ h9 => h9) rfl rfl rfl rfl (Nat.le_of_ble_eq_true rfl) setMi_40 dX6_code_104 (fun H locs hz => ?_)
      refine lv_aload_n hx hb dX6_code_107 rfl (lv_at hl 0 rfl) ?_
      obtain ⟨s10, e11, h⟩ := bd1_e h
      refine zcallVv (As := []) (rest := []) CF hKK (KX6_placeAll (dC := dC) (dI := dI) (cI := cI) (cZ := cZ) (a := a) hok e11) (cwV 0 hts gX6_code_X6_placeAll rfl rfl rfl cdX6_placeAll ⟨Nat.le_of_ble_eq_true rfl, Nat.le_of_ble_eq_true rfl⟩) 0 6 rfl rfl hz rfl hl.1 rfl (Nat.le_of_ble_eq_true rfl) dX6_code_108 ⟨Nat.le_refl _, Nat.le_refl _⟩ (fun H locs hz => ?_)
      refine lv_aload_n hx hb dX6_code_111 rfl (lv_at hl 0 rfl) ?_
      refine va_get (v := .int (s10 41 0)) hx hb hts inX6_code_X6 hown hKK.1 hz.1 0 rfl rfl 2 (by decide) (hts _ (List.mem_of_getElem? (i := 6) rfl)) (fun _ h9 => h9) rfl dX6_code_112 ?_
      exact rt (s10 41 0) s10 115 _ _ _ dX6_code_115 h hz
    · replace h := ite_f c8 h
      refine lv_aload_n hx hb dX6_code_62 rfl (lv_at hl 0 rfl) ?_
      refine va_get (v := .ref (a 2)) hx hb hts inX6_code_X6 hown hKK.1 hz.1 0 rfl rfl 3 (by decide) (hts _ (List.mem_of_getElem? (i := 7) rfl)) (fun _ h9 => h9) rfl dX6_code_63 ?_
      refine lv_iload_n hx hb dX6_code_66 rfl (lv_at hl 1 rfl) ?_
      refine lv_aload_n hx hb dX6_code_67 rfl (lv_at hl 0 rfl) ?_
      refine va_get (v := .ref (a 5)) hx hb hts inX6_code_X6 hown hKK.1 hz.1 0 rfl rfl 9 (by decide) (hts _ (List.mem_of_getElem? (i := 8) rfl)) (fun _ h9 => h9) rfl dX6_code_68 ?_
      refine lv_iload_n hx hb dX6_code_71 rfl (lv_at hl 1 rfl) ?_
      obtain ⟨c12, h⟩ := ck_e h
      refine va_iald (f := (σ 5)) hx hb hKK.1 hz.1 5 0 rfl rfl c12 dX6_code_72 ?_
      obtain ⟨c13, h⟩ := ck_e h
      refine ziast (f := σ 2) (w' := wdM cI cZ a hh (sa σ 2 (Int32.toNatClampNeg y1) ((σ 5) (Int32.toNatClampNeg y1)))) hx hb hKK hok wkM hz 2 rfl c13 setMa_2 dX6_code_73 (fun H locs hz => ?_)
      refine lv_aload_n hx hb dX6_code_74 rfl (lv_at hl 0 rfl) ?_
      refine va_get (v := .ref (a 3)) hx hb hts inX6_code_X6 hown hKK.1 hz.1 0 rfl rfl 4 (by decide) (hts _ (List.mem_of_getElem? (i := 9) rfl)) (fun _ h9 => h9) rfl dX6_code_75 ?_
      refine lv_iload_n hx hb dX6_code_78 rfl (lv_at hl 1 rfl) ?_
      refine lv_aload_n hx hb dX6_code_79 rfl (lv_at hl 0 rfl) ?_
      refine va_get (v := .ref (a 6)) hx hb hts inX6_code_X6 hown hKK.1 hz.1 0 rfl rfl 10 (by decide) (hts _ (List.mem_of_getElem? (i := 10) rfl)) (fun _ h9 => h9) rfl dX6_code_80 ?_
      refine lv_iload_n hx hb dX6_code_83 rfl (lv_at hl 1 rfl) ?_
      obtain ⟨c14, h⟩ := ck_e h
      refine va_iald (f := (σ 6)) hx hb hKK.1 hz.1 6 0 rfl rfl c14 dX6_code_84 ?_
      obtain ⟨c15, h⟩ := ck_e h
      refine ziast (f := (sa σ 2 (Int32.toNatClampNeg y1) ((σ 5) (Int32.toNatClampNeg y1))) 3) (w' := wdM cI cZ a hh (sa (sa σ 2 (Int32.toNatClampNeg y1) ((σ 5) (Int32.toNatClampNeg y1))) 3 (Int32.toNatClampNeg y1) ((σ 6) (Int32.toNatClampNeg y1)))) hx hb hKK hok wkM hz 3 rfl c15 setMa_3 dX6_code_85 (fun H locs hz => ?_)
      refine lv_iinc (v := (y1 + (1 : Int32))) (lv' := [(1, .int (y1 + (1 : Int32))), (0, .ref (a 0))]) hx hb dX6_code_86 hl (k := 1) rfl rfl (by decide) rfl (fun ls hl => ?_)
      refine lv_goto (tgt := 54) hx hb dX6_code_89 (by decide) ?_
      exact hk54 (sa (sa σ 2 (Int32.toNatClampNeg y1) ((σ 5) (Int32.toNatClampNeg y1))) 3 (Int32.toNatClampNeg y1) ((σ 6) (Int32.toNatClampNeg y1))) (y1 + (1 : Int32)) _ _ _ h hz (lv_sub hl [1, 0] rfl)
  have l54 : ∀  (n : Nat), ∀ (σ : St) (y1 : Int32) (H : Heap) (locs : List Loc) (ls : Array Slot), fX6_code_l54  n σ y1 = some (r, σ2) → zz (dC, dI) 18 a (wdM cI cZ a hh σ) s.heap H locs → lv_has ls 2 [(0, .ref (a 0)), (1, .int y1)] → W p l e rmX6_code s m args below meth c H locs 0 0 Q (F0 m 54 ls []) := by
    intro  n
    induction n with
    | zero => intro σ y1 H locs ls h; exact nomatch h
    | succ n ih => exact s54  (fX6_code_l54  n) ih
  unfold fX6_code at h
  refine lv_aload_n hx hb dX6_code_0 rfl (lv_at hl 0 rfl) ?_
  obtain ⟨r1, s2, e3, h⟩ := bd2_e h
  refine zcallVi (As := []) (rest := []) CF hKK (KX6_goAlong (dC := dC) (dI := dI) (cI := cI) (cZ := cZ) (a := a) hok e3) (cwV 0 hts gX6_code_X6_goAlong rfl rfl rfl cdX6_goAlong ⟨Nat.le_of_ble_eq_true rfl, Nat.le_of_ble_eq_true rfl⟩) 0 6 rfl rfl hz rfl hl.1 rfl (Nat.le_of_ble_eq_true rfl) dX6_code_1 ⟨Nat.le_refl _, Nat.le_refl _⟩ (fun H locs hz => ?_)
  refine lv_aload_n hx hb dX6_code_4 rfl (lv_at hl 0 rfl) ?_
  refine va_get (v := .int (s2 40 0)) hx hb hts inX6_code_X6 hown hKK.1 hz.1 0 rfl rfl 0 (by decide) (hts _ (List.mem_of_getElem? (i := 1) rfl)) (fun _ h9 => h9) rfl dX6_code_5 ?_
  refine lv_icmp_lt (tgt := 40) hx hb dX6_code_8 (by decide) (fun c4 => ?_) (fun c4 => ?_)
  · replace h := ite_t c4 h
    refine lv_sipush (v := (-1003 : Int32)) hx hb dX6_code_40 (by decide) ?_
    exact rt (-1003 : Int32) s2 43 _ _ _ dX6_code_43 h hz
  · replace h := ite_f c4 h
    refine lv_aload_n hx hb dX6_code_11 rfl (lv_at hl 0 rfl) ?_
    refine va_get (v := .int (s2 45 0)) hx hb hts inX6_code_X6 hown hKK.1 hz.1 0 rfl rfl 11 (by decide) (hts _ (List.mem_of_getElem? (i := 2) rfl)) (fun _ h9 => h9) rfl dX6_code_12 ?_
    refine lv_iconst (v := (-1 : Int32)) hx hb dX6_code_15 (by decide) ?_
    refine lv_icmp_ne (tgt := 40) hx hb dX6_code_16 (by decide) (fun c5 => ?_) (fun c5 => ?_)
    · replace h := ite_f c5 h
      refine lv_sipush (v := (-1003 : Int32)) hx hb dX6_code_40 (by decide) ?_
      exact rt (-1003 : Int32) s2 43 _ _ _ dX6_code_43 h hz
    · replace h := ite_t c5 h
      refine lv_aload_n hx hb dX6_code_19 rfl (lv_at hl 0 rfl) ?_
      refine va_get (v := .int (s2 44 0)) hx hb hts inX6_code_X6 hown hKK.1 hz.1 0 rfl rfl 8 (by decide) (hts _ (List.mem_of_getElem? (i := 3) rfl)) (fun _ h9 => h9) rfl dX6_code_20 ?_
      refine lv_if_eq (tgt := 40) hx hb dX6_code_23 (by decide) (fun c6 => ?_) (fun c6 => ?_)
      · replace h := ite_t c6 h
        refine lv_sipush (v := (-1003 : Int32)) hx hb dX6_code_40 (by decide) ?_
        exact rt (-1003 : Int32) s2 43 _ _ _ dX6_code_43 h hz
      · replace h := ite_f c6 h
        refine lv_aload_n hx hb dX6_code_26 rfl (lv_at hl 0 rfl) ?_
        refine va_get (v := .int (s2 47 0)) hx hb hts inX6_code_X6 hown hKK.1 hz.1 0 rfl rfl 13 (by decide) (hts _ (List.mem_of_getElem? (i := 4) rfl)) (fun _ h9 => h9) rfl dX6_code_27 ?_
        refine lv_aload_n hx hb dX6_code_30 rfl (lv_at hl 0 rfl) ?_
        refine va_get (v := .int (s2 46 0)) hx hb hts inX6_code_X6 hown hKK.1 hz.1 0 rfl rfl 12 (by decide) (hts _ (List.mem_of_getElem? (i := 5) rfl)) (fun _ h9 => h9) rfl dX6_code_31 ?_
        refine lv_iconst (v := (-1 : Int32)) hx hb dX6_code_34 (by decide) ?_
        refine lv_ixor hx hb dX6_code_35 ?_
        refine lv_iand hx hb dX6_code_36 ?_
        refine lv_if_eq (tgt := 44) hx hb dX6_code_37 (by decide) (fun c7 => ?_) (fun c7 => ?_)
        · replace h := ite_t c7 h
          refine lv_aload_n hx hb dX6_code_44 rfl (lv_at hl 0 rfl) ?_
          refine lv_aload_n hx hb dX6_code_45 rfl (lv_at hl 0 rfl) ?_
          refine va_get (v := .int (s2 44 0)) hx hb hts inX6_code_X6 hown hKK.1 hz.1 0 rfl rfl 8 (by decide) (hts _ (List.mem_of_getElem? (i := 3) rfl)) (fun _ h9 => h9) rfl dX6_code_46 ?_
          refine zput (ty := .int) (w' := wdM cI cZ a hh (si s2 41 (s2 44 0))) hx hb hts inX6_code_X6 tyX6 tyX6_ok nmX6 hown hKK hok wkM hz 0 rfl rfl 2 (by decide) (hts _ (List.mem_of_getElem? (i := 6) rfl)) (fun _ h9 => h9) rfl rfl rfl rfl (Nat.le_of_ble_eq_true rfl) setMi_41 dX6_code_49 (fun H locs hz => ?_)
          refine lv_iconst (v := (0 : Int32)) hx hb dX6_code_52 (by decide) ?_
          refine lv_istore_n (lv' := [(1, .int (0 : Int32)), (0, .ref (a 0))]) hx hb dX6_code_53 rfl hl (by decide) rfl (fun ls hl => ?_)
          exact l54  FU (si s2 41 (s2 44 0)) (0 : Int32) _ _ _ h hz (lv_sub hl [1, 0] rfl)
        · replace h := ite_f c7 h
          refine lv_sipush (v := (-1003 : Int32)) hx hb dX6_code_40 (by decide) ?_
          exact rt (-1003 : Int32) s2 43 _ _ _ dX6_code_43 h hz
def fX6_isItem (σ : St) (x1 : Int32) : Option (Int32) :=
  (bd1 (fX6_within σ x1 (0 : Int32) ((σ 41 0) - (1 : Int32))) fun r1 => (ck (r1 = 0 ∨ r1 = 1) <| some r1))
abbrev rmX6_isItem : Room := { frames := 1, cells := 0, slots := 0, locals := 22 }
set_option maxHeartbeats 4000000 in
set_option maxRecDepth 100000 in
theorem KX6_isItem {l : Launch} {dC : Nat → ClassId} {dI : Nat → Nat → Nat} {cI cZ : ClassId} {a : Nat → Nat} {hh : Int64} {σ : St} {x1 : Int32} {r : Int32} (hok : okA 18 a) (h : fX6_isItem σ x1 = some r) (sz : Nat) : Met l yX6_isItem wsX6_isItem rmX6_isItem (Pz (dC, dI) cI cZ (wdM cI cZ a hh σ) sz [.ref (a 0), .int x1]) (Qzi (dC, dI) 18 a (wdM cI cZ a hh σ) sz r) 0 0 (aN 18 a sz) := by
  refine Met.ofW (cc := cX6_isItem) (maxL := 2) (ret := (some .boolean)) (by decide) rfl ?_
  intro p e s m args below meth c s₁ B hml hv
  obtain ⟨hav, hsz, hP, hKK⟩ := hv
  have hx := B.exec
  have hb := B.bytes
  have hr := B.returns
  have hts := atoms_spec (ws := wsX6_isItem) B.pre
  have hown : s.vm.findClass RX6 = some m.cls := findClass_of_methodNamed B.named
  have hlocks := B.notSynchronized
  have CF : CallFix p m c cX6_isItem 2 s args wsX6_isItem RX6 := ⟨hx, hb, hml, hown, hts⟩
  have hz : zz (dC, dI) 18 a (wdM cI cZ a hh σ) s.heap s.heap [] := ⟨hP, va_S.rf⟩
  have hl := lv_entry [.ref (a 0), .int x1] (n := 2) (Nat.le_of_ble_eq_true rfl)
  have hen : entryFrame m args 2 = entryFrame m ([.ref (a 0), .int x1] : List Value).toArray 2 := by rw [hav]
  rw [hen, lg_entry_eq]
  generalize (lg_sl [.ref (a 0), .int x1] ++ List.replicate (2 - (lg_sl [.ref (a 0), .int x1]).length) Slot.unset).toArray = ls at hl ⊢
  have hl : lv_has ls 2 [(0, .ref (a 0)), (1, .int x1)] := hl
  have eR : (headSpec wsX6_isItem rmX6_isItem).room = rmX6_isItem := rfl
  rw [eR]
  have rt : ∀ (v : Int32) (t : St) (pc : Nat) (H : Heap) (locs : List Loc) (ls : Array Slot), decode cX6_isItem pc = .ok (.ireturn, 1) → some v = some r → zz (dC, dI) 18 a (wdM cI cZ a hh σ) s.heap H locs → (v = 0 ∨ v = 1) → W p l e rmX6_isItem s m args below meth c H locs 0 0 (MQ below (Qzi (dC, dI) 18 a (wdM cI cZ a hh σ) sz r) args s 0 0 (aN 18 a sz)) (F0 m pc ls [.int v]) := by
    intro v t pc H locs ls hd h hz hv
    cases h
    exact zzret hsz hx hb hr hlocks hv hz hd
  generalize (MQ below (Qzi (dC, dI) 18 a (wdM cI cZ a hh σ) sz r) args s 0 0 (aN 18 a sz)) = Q at rt ⊢
  unfold fX6_isItem at h
  refine lv_iload_n hx hb dX6_isItem_0 rfl (lv_at hl 1 rfl) ?_
  refine lv_iconst (v := (0 : Int32)) hx hb dX6_isItem_1 (by decide) ?_
  refine lv_aload_n hx hb dX6_isItem_2 rfl (lv_at hl 0 rfl) ?_
  refine va_get (v := .int (σ 41 0)) hx hb hts inX6_isItem_X6 hown hKK.1 hz.1 0 rfl rfl 2 (by decide) (hts _ (List.mem_of_getElem? (i := 1) rfl)) (fun _ h9 => h9) rfl dX6_isItem_3 ?_
  refine lv_iconst (v := (1 : Int32)) hx hb dX6_isItem_6 (by decide) ?_
  refine lv_isub hx hb dX6_isItem_7 ?_
  obtain ⟨r1, e3, h⟩ := bd1_e h
  refine zcallSi (As := [.int x1, .int (0 : Int32), .int ((σ 41 0) - (1 : Int32))]) (rest := []) CF hKK (KX6_within (dC := dC) (dI := dI) (cI := cI) (cZ := cZ) (a := a) hok e3) (va_cwS 3 hts gX6_isItem_X6_within rfl rfl rfl cdX6_within.2 ⟨Nat.le_of_ble_eq_true rfl, Nat.le_of_ble_eq_true rfl⟩) hz rfl hl.1 rfl (Nat.le_of_ble_eq_true rfl) dX6_isItem_8 ⟨Nat.le_refl _, Nat.le_refl _⟩ (fun H locs hz => ?_)
  obtain ⟨c4, h⟩ := ck_e h
  exact rt r1 σ 11 _ _ _ dX6_isItem_11 h hz c4
def fX6_reach_b30  (σ : St) (y1 : Int32) (y2 : Int32) (t0 : Int32) (t1 : Int32) (t2 : Int32) : Option (Int32 × St) :=
  (bd1 (fX6_within σ t2 t1 t0) fun r7 => (if r7 = 0 then (some ((-1002 : Int32), σ)) else ((ck (¬ (y1 < 0 ∨ 3 ≤ Int32.toNatClampNeg y1)) <| (ck (¬ (y1 < 0 ∨ 3 ≤ Int32.toNatClampNeg y1)) <| (bd1 (fX6_placeAll (si (sa σ 4 (Int32.toNatClampNeg y1) y2) 43 ((σ 43 0) + (1 : Int32))) ) fun s14 => some (((σ 4) (Int32.toNatClampNeg y1)), s14)))))))
def fX6_reach_b19  (σ : St) (y1 : Int32) (y2 : Int32) (t0 : Int32) (t1 : Int32) : Option (Int32 × St) :=
  (if y1 = 0 then (fX6_reach_b30  σ y1 y2 (60 : Int32) t0 t1) else (fX6_reach_b30  σ y1 y2 (120 : Int32) t0 t1))
def fX6_reach (σ : St) (x1 : Int32) (x2 : Int32) : Option (Int32 × St) :=
  (bd1 (fX6_within σ x1 (0 : Int32) (2 : Int32)) fun r1 => (if r1 = 0 then (some ((-1002 : Int32), σ)) else ((if x1 = 0 then (fX6_reach_b19  σ x1 x2 (2 : Int32) x2) else (fX6_reach_b19  σ x1 x2 (4 : Int32) x2)))))
abbrev rmX6_reach : Room := { frames := 7, cells := 0, slots := 0, locals := 159 }
set_option maxHeartbeats 4000000 in
set_option maxRecDepth 100000 in
theorem KX6_reach {l : Launch} {dC : Nat → ClassId} {dI : Nat → Nat → Nat} {cI cZ : ClassId} {a : Nat → Nat} {hh : Int64} {σ : St} {x1 : Int32} {x2 : Int32} {r : Int32} {σ2 : St} (hok : okA 18 a) (h : fX6_reach σ x1 x2 = some (r, σ2)) (sz : Nat) : Met l yX6_reach wsX6_reach rmX6_reach (Pz (dC, dI) cI cZ (wdM cI cZ a hh σ) sz [.ref (a 0), .int x1, .int x2]) (Qzi (dC, dI) 18 a (wdM cI cZ a hh σ2) sz r) 0 0 (aN 18 a sz) := by
  refine Met.ofW (cc := cX6_reach) (maxL := 4) (ret := (some .int)) (by decide) rfl ?_
  intro p e s m args below meth c s₁ B hml hv
  obtain ⟨hav, hsz, hP, hKK⟩ := hv
  have hx := B.exec
  have hb := B.bytes
  have hr := B.returns
  have hts := atoms_spec (ws := wsX6_reach) B.pre
  have hown : s.vm.findClass RX6 = some m.cls := findClass_of_methodNamed B.named
  have hlocks := B.notSynchronized
  have CF : CallFix p m c cX6_reach 4 s args wsX6_reach RX6 := ⟨hx, hb, hml, hown, hts⟩
  have hz : zz (dC, dI) 18 a (wdM cI cZ a hh σ) s.heap s.heap [] := ⟨hP, va_S.rf⟩
  have hl := lv_entry [.ref (a 0), .int x1, .int x2] (n := 4) (Nat.le_of_ble_eq_true rfl)
  have hen : entryFrame m args 4 = entryFrame m ([.ref (a 0), .int x1, .int x2] : List Value).toArray 4 := by rw [hav]
  rw [hen, lg_entry_eq]
  generalize (lg_sl [.ref (a 0), .int x1, .int x2] ++ List.replicate (4 - (lg_sl [.ref (a 0), .int x1, .int x2]).length) Slot.unset).toArray = ls at hl ⊢
  have hl : lv_has ls 4 [(0, .ref (a 0)), (1, .int x1), (2, .int x2)] := hl
  have eR : (headSpec wsX6_reach rmX6_reach).room = rmX6_reach := rfl
  rw [eR]
  have rt : ∀ (v : Int32) (t : St) (pc : Nat) (H : Heap) (locs : List Loc) (ls : Array Slot), decode cX6_reach pc = .ok (.ireturn, 1) → some (v, t) = some (r, σ2) → zz (dC, dI) 18 a (wdM cI cZ a hh t) s.heap H locs → W p l e rmX6_reach s m args below meth c H locs 0 0 (MQ below (Qzi (dC, dI) 18 a (wdM cI cZ a hh σ2) sz r) args s 0 0 (aN 18 a sz)) (F0 m pc ls [.int v]) := by
    intro v t pc H locs ls hd h hz
    cases h
    exact ziret hsz hx hb hr hlocks hz hd
  generalize (MQ below (Qzi (dC, dI) 18 a (wdM cI cZ a hh σ2) sz r) args s 0 0 (aN 18 a sz)) = Q at rt ⊢
  have b30 : ∀  (σ : St) (y1 : Int32) (y2 : Int32) (t0 : Int32) (t1 : Int32) (t2 : Int32) (H : Heap) (locs : List Loc) (ls : Array Slot), fX6_reach_b30  σ y1 y2 t0 t1 t2 = some (r, σ2) → zz (dC, dI) 18 a (wdM cI cZ a hh σ) s.heap H locs → lv_has ls 4 [(0, .ref (a 0)), (1, .int y1), (2, .int y2)] → W p l e rmX6_reach s m args below meth c H locs 0 0 Q (F0 m 30 ls [.int t0, .int t1, .int t2]) := by
    intro  σ y1 y2 t0 t1 t2 H locs ls h hz hl
    unfold fX6_reach_b30 at h
    obtain ⟨r7, e9, h⟩ := bd1_e h
    refine zcallSi (As := [.int t2, .int t1, .int t0]) (rest := []) CF hKK (KX6_within (dC := dC) (dI := dI) (cI := cI) (cZ := cZ) (a := a) hok e9) (va_cwS 3 hts gX6_reach_X6_within rfl rfl rfl cdX6_within.2 ⟨Nat.le_of_ble_eq_true rfl, Nat.le_of_ble_eq_true rfl⟩) hz rfl hl.1 rfl (Nat.le_of_ble_eq_true rfl) dX6_reach_30 ⟨Nat.le_refl _, Nat.le_refl _⟩ (fun H locs hz => ?_)
    refine lv_if_ne (tgt := 40) hx hb dX6_reach_33 (by decide) (fun c10 => ?_) (fun c10 => ?_)
    · replace h := ite_f c10 h
      refine lv_aload_n hx hb dX6_reach_40 rfl (lv_at hl 0 rfl) ?_
      refine va_get (v := .ref (a 4)) hx hb hts inX6_reach_X6 hown hKK.1 hz.1 0 rfl rfl 7 (by decide) (hts _ (List.mem_of_getElem? (i := 1) rfl)) (fun _ h9 => h9) rfl dX6_reach_41 ?_
      refine lv_iload_n hx hb dX6_reach_44 rfl (lv_at hl 1 rfl) ?_
      obtain ⟨c11, h⟩ := ck_e h
      refine va_iald (f := (σ 4)) hx hb hKK.1 hz.1 4 0 rfl rfl c11 dX6_reach_45 ?_
      refine lv_istore_n (lv' := [(3, .int ((σ 4) (Int32.toNatClampNeg y1))), (0, .ref (a 0)), (1, .int y1), (2, .int y2)]) hx hb dX6_reach_46 rfl hl (by decide) rfl (fun ls hl => ?_)
      refine lv_aload_n hx hb dX6_reach_47 rfl (lv_at hl 1 rfl) ?_
      refine va_get (v := .ref (a 4)) hx hb hts inX6_reach_X6 hown hKK.1 hz.1 0 rfl rfl 7 (by decide) (hts _ (List.mem_of_getElem? (i := 1) rfl)) (fun _ h9 => h9) rfl dX6_reach_48 ?_
      refine lv_iload_n hx hb dX6_reach_51 rfl (lv_at hl 2 rfl) ?_
      refine lv_iload_n hx hb dX6_reach_52 rfl (lv_at hl 3 rfl) ?_
      obtain ⟨c12, h⟩ := ck_e h
      refine ziast (f := σ 4) (w' := wdM cI cZ a hh (sa σ 4 (Int32.toNatClampNeg y1) y2)) hx hb hKK hok wkM hz 4 rfl c12 setMa_4 dX6_reach_53 (fun H locs hz => ?_)
      refine lv_aload_n hx hb dX6_reach_54 rfl (lv_at hl 1 rfl) ?_
      refine lv_dup hx hb dX6_reach_55 rfl ?_
      refine va_get (v := .int (σ 43 0)) hx hb hts inX6_reach_X6 hown hKK.1 hz.1 0 rfl rfl 6 (by decide) (hts _ (List.mem_of_getElem? (i := 2) rfl)) (fun _ h9 => h9) rfl dX6_reach_56 ?_
      refine lv_iconst (v := (1 : Int32)) hx hb dX6_reach_59 (by decide) ?_
      refine lv_iadd hx hb dX6_reach_60 ?_
      refine zput (ty := .int) (w' := wdM cI cZ a hh (si (sa σ 4 (Int32.toNatClampNeg y1) y2) 43 ((σ 43 0) + (1 : Int32)))) hx hb hts inX6_reach_X6 tyX6 tyX6_ok nmX6 hown hKK hok wkM hz 0 rfl rfl 6 (by decide) (hts _ (List.mem_of_getElem? (i := 2) rfl)) (fun _ h9 => h9) rfl rfl rfl rfl (Nat.le_of_ble_eq_true rfl) setMi_43 dX6_reach_61 (fun H locs hz => ?_)
      refine lv_aload_n hx hb dX6_reach_64 rfl (lv_at hl 1 rfl) ?_
      obtain ⟨s14, e15, h⟩ := bd1_e h
      refine zcallVv (As := []) (rest := []) CF hKK (KX6_placeAll (dC := dC) (dI := dI) (cI := cI) (cZ := cZ) (a := a) hok e15) (cwV 0 hts gX6_reach_X6_placeAll rfl rfl rfl cdX6_placeAll ⟨Nat.le_of_ble_eq_true rfl, Nat.le_of_ble_eq_true rfl⟩) 0 6 rfl rfl hz rfl hl.1 rfl (Nat.le_of_ble_eq_true rfl) dX6_reach_65 ⟨Nat.le_refl _, Nat.le_refl _⟩ (fun H locs hz => ?_)
      refine lv_iload_n hx hb dX6_reach_68 rfl (lv_at hl 0 rfl) ?_
      exact rt ((σ 4) (Int32.toNatClampNeg y1)) s14 69 _ _ _ dX6_reach_69 h hz
    · replace h := ite_t c10 h
      refine lv_sipush (v := (-1002 : Int32)) hx hb dX6_reach_36 (by decide) ?_
      exact rt (-1002 : Int32) σ 39 _ _ _ dX6_reach_39 h hz
  have b19 : ∀  (σ : St) (y1 : Int32) (y2 : Int32) (t0 : Int32) (t1 : Int32) (H : Heap) (locs : List Loc) (ls : Array Slot), fX6_reach_b19  σ y1 y2 t0 t1 = some (r, σ2) → zz (dC, dI) 18 a (wdM cI cZ a hh σ) s.heap H locs → lv_has ls 4 [(0, .ref (a 0)), (1, .int y1), (2, .int y2)] → W p l e rmX6_reach s m args below meth c H locs 0 0 Q (F0 m 19 ls [.int t0, .int t1]) := by
    intro  σ y1 y2 t0 t1 H locs ls h hz hl
    unfold fX6_reach_b19 at h
    refine lv_iload_n hx hb dX6_reach_19 rfl (lv_at hl 1 rfl) ?_
    refine lv_if_ne (tgt := 28) hx hb dX6_reach_20 (by decide) (fun c6 => ?_) (fun c6 => ?_)
    · replace h := ite_f c6 h
      refine lv_bipush (v := (120 : Int32)) hx hb dX6_reach_28 (by decide) ?_
      exact b30  σ y1 y2 (120 : Int32) t0 t1 _ _ _ h hz (lv_sub hl [0, 1, 2] rfl)
    · replace h := ite_t c6 h
      refine lv_bipush (v := (60 : Int32)) hx hb dX6_reach_23 (by decide) ?_
      refine lv_goto (tgt := 30) hx hb dX6_reach_25 (by decide) ?_
      exact b30  σ y1 y2 (60 : Int32) t0 t1 _ _ _ h hz (lv_sub hl [0, 1, 2] rfl)
  unfold fX6_reach at h
  refine lv_iload_n hx hb dX6_reach_0 rfl (lv_at hl 1 rfl) ?_
  refine lv_iconst (v := (0 : Int32)) hx hb dX6_reach_1 (by decide) ?_
  refine lv_iconst (v := (2 : Int32)) hx hb dX6_reach_2 (by decide) ?_
  obtain ⟨r1, e3, h⟩ := bd1_e h
  refine zcallSi (As := [.int x1, .int (0 : Int32), .int (2 : Int32)]) (rest := []) CF hKK (KX6_within (dC := dC) (dI := dI) (cI := cI) (cZ := cZ) (a := a) hok e3) (va_cwS 3 hts gX6_reach_X6_within rfl rfl rfl cdX6_within.2 ⟨Nat.le_of_ble_eq_true rfl, Nat.le_of_ble_eq_true rfl⟩) hz rfl hl.1 rfl (Nat.le_of_ble_eq_true rfl) dX6_reach_3 ⟨Nat.le_refl _, Nat.le_refl _⟩ (fun H locs hz => ?_)
  refine lv_if_eq (tgt := 36) hx hb dX6_reach_6 (by decide) (fun c4 => ?_) (fun c4 => ?_)
  · replace h := ite_t c4 h
    refine lv_sipush (v := (-1002 : Int32)) hx hb dX6_reach_36 (by decide) ?_
    exact rt (-1002 : Int32) σ 39 _ _ _ dX6_reach_39 h hz
  · replace h := ite_f c4 h
    refine lv_iload_n hx hb dX6_reach_9 rfl (lv_at hl 2 rfl) ?_
    refine lv_iload_n hx hb dX6_reach_10 rfl (lv_at hl 1 rfl) ?_
    refine lv_if_ne (tgt := 18) hx hb dX6_reach_11 (by decide) (fun c5 => ?_) (fun c5 => ?_)
    · replace h := ite_f c5 h
      refine lv_iconst (v := (4 : Int32)) hx hb dX6_reach_18 (by decide) ?_
      exact b19  σ x1 x2 (4 : Int32) x2 _ _ _ h hz (lv_sub hl [0, 1, 2] rfl)
    · replace h := ite_t c5 h
      refine lv_iconst (v := (2 : Int32)) hx hb dX6_reach_14 (by decide) ?_
      refine lv_goto (tgt := 19) hx hb dX6_reach_15 (by decide) ?_
      exact b19  σ x1 x2 (2 : Int32) x2 _ _ _ h hz (lv_sub hl [0, 1, 2] rfl)
def fX6_grow (σ : St) (x1 : Int32) (x2 : Int32) : Option (Int32 × St) :=
  (bd1 (fX6_isItem σ x1) fun r1 => (if r1 = 0 then (some ((-1001 : Int32), σ)) else ((bd1 (fX6_within σ x2 (1 : Int32) (40 : Int32)) fun r5 => (if r5 = 0 then (some ((-1002 : Int32), σ)) else ((ck (¬ (x1 < 0 ∨ 24 ≤ Int32.toNatClampNeg x1)) <| (if ((σ 2) (Int32.toNatClampNeg x1)) = 0 then ((ck (¬ (x1 < 0 ∨ 24 ≤ Int32.toNatClampNeg x1)) <| (ck (¬ (x1 < 0 ∨ 24 ≤ Int32.toNatClampNeg x1)) <| (bd1 (fX6_placeAll (si (sa σ 3 (Int32.toNatClampNeg x1) x2) 43 ((σ 43 0) + (1 : Int32))) ) fun s14 => some (((σ 3) (Int32.toNatClampNeg x1)), s14))))) else (some ((-1003 : Int32), σ))))))))))
abbrev rmX6_grow : Room := { frames := 7, cells := 0, slots := 0, locals := 159 }
set_option maxHeartbeats 4000000 in
set_option maxRecDepth 100000 in
theorem KX6_grow {l : Launch} {dC : Nat → ClassId} {dI : Nat → Nat → Nat} {cI cZ : ClassId} {a : Nat → Nat} {hh : Int64} {σ : St} {x1 : Int32} {x2 : Int32} {r : Int32} {σ2 : St} (hok : okA 18 a) (h : fX6_grow σ x1 x2 = some (r, σ2)) (sz : Nat) : Met l yX6_grow wsX6_grow rmX6_grow (Pz (dC, dI) cI cZ (wdM cI cZ a hh σ) sz [.ref (a 0), .int x1, .int x2]) (Qzi (dC, dI) 18 a (wdM cI cZ a hh σ2) sz r) 0 0 (aN 18 a sz) := by
  refine Met.ofW (cc := cX6_grow) (maxL := 4) (ret := (some .int)) (by decide) rfl ?_
  intro p e s m args below meth c s₁ B hml hv
  obtain ⟨hav, hsz, hP, hKK⟩ := hv
  have hx := B.exec
  have hb := B.bytes
  have hr := B.returns
  have hts := atoms_spec (ws := wsX6_grow) B.pre
  have hown : s.vm.findClass RX6 = some m.cls := findClass_of_methodNamed B.named
  have hlocks := B.notSynchronized
  have CF : CallFix p m c cX6_grow 4 s args wsX6_grow RX6 := ⟨hx, hb, hml, hown, hts⟩
  have hz : zz (dC, dI) 18 a (wdM cI cZ a hh σ) s.heap s.heap [] := ⟨hP, va_S.rf⟩
  have hl := lv_entry [.ref (a 0), .int x1, .int x2] (n := 4) (Nat.le_of_ble_eq_true rfl)
  have hen : entryFrame m args 4 = entryFrame m ([.ref (a 0), .int x1, .int x2] : List Value).toArray 4 := by rw [hav]
  rw [hen, lg_entry_eq]
  generalize (lg_sl [.ref (a 0), .int x1, .int x2] ++ List.replicate (4 - (lg_sl [.ref (a 0), .int x1, .int x2]).length) Slot.unset).toArray = ls at hl ⊢
  have hl : lv_has ls 4 [(0, .ref (a 0)), (1, .int x1), (2, .int x2)] := hl
  have eR : (headSpec wsX6_grow rmX6_grow).room = rmX6_grow := rfl
  rw [eR]
  have rt : ∀ (v : Int32) (t : St) (pc : Nat) (H : Heap) (locs : List Loc) (ls : Array Slot), decode cX6_grow pc = .ok (.ireturn, 1) → some (v, t) = some (r, σ2) → zz (dC, dI) 18 a (wdM cI cZ a hh t) s.heap H locs → W p l e rmX6_grow s m args below meth c H locs 0 0 (MQ below (Qzi (dC, dI) 18 a (wdM cI cZ a hh σ2) sz r) args s 0 0 (aN 18 a sz)) (F0 m pc ls [.int v]) := by
    intro v t pc H locs ls hd h hz
    cases h
    exact ziret hsz hx hb hr hlocks hz hd
  generalize (MQ below (Qzi (dC, dI) 18 a (wdM cI cZ a hh σ2) sz r) args s 0 0 (aN 18 a sz)) = Q at rt ⊢
  unfold fX6_grow at h
  refine lv_aload_n hx hb dX6_grow_0 rfl (lv_at hl 0 rfl) ?_
  refine lv_iload_n hx hb dX6_grow_1 rfl (lv_at hl 1 rfl) ?_
  obtain ⟨r1, e3, h⟩ := bd1_e h
  refine zcallVi (As := [.int x1]) (rest := []) CF hKK (KX6_isItem (dC := dC) (dI := dI) (cI := cI) (cZ := cZ) (a := a) hok e3) (cwV 1 hts gX6_grow_X6_isItem rfl rfl rfl cdX6_isItem ⟨Nat.le_of_ble_eq_true rfl, Nat.le_of_ble_eq_true rfl⟩) 0 6 rfl rfl hz rfl hl.1 rfl (Nat.le_of_ble_eq_true rfl) dX6_grow_2 ⟨Nat.le_refl _, Nat.le_refl _⟩ (fun H locs hz => ?_)
  refine lv_if_ne (tgt := 12) hx hb dX6_grow_5 (by decide) (fun c4 => ?_) (fun c4 => ?_)
  · replace h := ite_f c4 h
    refine lv_iload_n hx hb dX6_grow_12 rfl (lv_at hl 2 rfl) ?_
    refine lv_iconst (v := (1 : Int32)) hx hb dX6_grow_13 (by decide) ?_
    refine lv_bipush (v := (40 : Int32)) hx hb dX6_grow_14 (by decide) ?_
    obtain ⟨r5, e7, h⟩ := bd1_e h
    refine zcallSi (As := [.int x2, .int (1 : Int32), .int (40 : Int32)]) (rest := []) CF hKK (KX6_within (dC := dC) (dI := dI) (cI := cI) (cZ := cZ) (a := a) hok e7) (va_cwS 3 hts gX6_grow_X6_within rfl rfl rfl cdX6_within.2 ⟨Nat.le_of_ble_eq_true rfl, Nat.le_of_ble_eq_true rfl⟩) hz rfl hl.1 rfl (Nat.le_of_ble_eq_true rfl) dX6_grow_16 ⟨Nat.le_refl _, Nat.le_refl _⟩ (fun H locs hz => ?_)
    refine lv_if_ne (tgt := 26) hx hb dX6_grow_19 (by decide) (fun c8 => ?_) (fun c8 => ?_)
    · replace h := ite_f c8 h
      refine lv_aload_n hx hb dX6_grow_26 rfl (lv_at hl 0 rfl) ?_
      refine va_get (v := .ref (a 2)) hx hb hts inX6_grow_X6 hown hKK.1 hz.1 0 rfl rfl 3 (by decide) (hts _ (List.mem_of_getElem? (i := 1) rfl)) (fun _ h9 => h9) rfl dX6_grow_27 ?_
      refine lv_iload_n hx hb dX6_grow_30 rfl (lv_at hl 1 rfl) ?_
      obtain ⟨c9, h⟩ := ck_e h
      refine va_iald (f := (σ 2)) hx hb hKK.1 hz.1 2 0 rfl rfl c9 dX6_grow_31 ?_
      refine lv_if_eq (tgt := 39) hx hb dX6_grow_32 (by decide) (fun c10 => ?_) (fun c10 => ?_)
      · replace h := ite_t c10 h
        refine lv_aload_n hx hb dX6_grow_39 rfl (lv_at hl 0 rfl) ?_
        refine va_get (v := .ref (a 3)) hx hb hts inX6_grow_X6 hown hKK.1 hz.1 0 rfl rfl 4 (by decide) (hts _ (List.mem_of_getElem? (i := 2) rfl)) (fun _ h9 => h9) rfl dX6_grow_40 ?_
        refine lv_iload_n hx hb dX6_grow_43 rfl (lv_at hl 1 rfl) ?_
        obtain ⟨c11, h⟩ := ck_e h
        refine va_iald (f := (σ 3)) hx hb hKK.1 hz.1 3 0 rfl rfl c11 dX6_grow_44 ?_
        refine lv_istore_n (lv' := [(3, .int ((σ 3) (Int32.toNatClampNeg x1))), (0, .ref (a 0)), (1, .int x1), (2, .int x2)]) hx hb dX6_grow_45 rfl hl (by decide) rfl (fun ls hl => ?_)
        refine lv_aload_n hx hb dX6_grow_46 rfl (lv_at hl 1 rfl) ?_
        refine va_get (v := .ref (a 3)) hx hb hts inX6_grow_X6 hown hKK.1 hz.1 0 rfl rfl 4 (by decide) (hts _ (List.mem_of_getElem? (i := 2) rfl)) (fun _ h9 => h9) rfl dX6_grow_47 ?_
        refine lv_iload_n hx hb dX6_grow_50 rfl (lv_at hl 2 rfl) ?_
        refine lv_iload_n hx hb dX6_grow_51 rfl (lv_at hl 3 rfl) ?_
        obtain ⟨c12, h⟩ := ck_e h
        refine ziast (f := σ 3) (w' := wdM cI cZ a hh (sa σ 3 (Int32.toNatClampNeg x1) x2)) hx hb hKK hok wkM hz 3 rfl c12 setMa_3 dX6_grow_52 (fun H locs hz => ?_)
        refine lv_aload_n hx hb dX6_grow_53 rfl (lv_at hl 1 rfl) ?_
        refine lv_dup hx hb dX6_grow_54 rfl ?_
        refine va_get (v := .int (σ 43 0)) hx hb hts inX6_grow_X6 hown hKK.1 hz.1 0 rfl rfl 6 (by decide) (hts _ (List.mem_of_getElem? (i := 3) rfl)) (fun _ h9 => h9) rfl dX6_grow_55 ?_
        refine lv_iconst (v := (1 : Int32)) hx hb dX6_grow_58 (by decide) ?_
        refine lv_iadd hx hb dX6_grow_59 ?_
        refine zput (ty := .int) (w' := wdM cI cZ a hh (si (sa σ 3 (Int32.toNatClampNeg x1) x2) 43 ((σ 43 0) + (1 : Int32)))) hx hb hts inX6_grow_X6 tyX6 tyX6_ok nmX6 hown hKK hok wkM hz 0 rfl rfl 6 (by decide) (hts _ (List.mem_of_getElem? (i := 3) rfl)) (fun _ h9 => h9) rfl rfl rfl rfl (Nat.le_of_ble_eq_true rfl) setMi_43 dX6_grow_60 (fun H locs hz => ?_)
        refine lv_aload_n hx hb dX6_grow_63 rfl (lv_at hl 1 rfl) ?_
        obtain ⟨s14, e15, h⟩ := bd1_e h
        refine zcallVv (As := []) (rest := []) CF hKK (KX6_placeAll (dC := dC) (dI := dI) (cI := cI) (cZ := cZ) (a := a) hok e15) (cwV 0 hts gX6_grow_X6_placeAll rfl rfl rfl cdX6_placeAll ⟨Nat.le_of_ble_eq_true rfl, Nat.le_of_ble_eq_true rfl⟩) 0 6 rfl rfl hz rfl hl.1 rfl (Nat.le_of_ble_eq_true rfl) dX6_grow_64 ⟨Nat.le_refl _, Nat.le_refl _⟩ (fun H locs hz => ?_)
        refine lv_iload_n hx hb dX6_grow_67 rfl (lv_at hl 0 rfl) ?_
        exact rt ((σ 3) (Int32.toNatClampNeg x1)) s14 68 _ _ _ dX6_grow_68 h hz
      · replace h := ite_f c10 h
        refine lv_sipush (v := (-1003 : Int32)) hx hb dX6_grow_35 (by decide) ?_
        exact rt (-1003 : Int32) σ 38 _ _ _ dX6_grow_38 h hz
    · replace h := ite_t c8 h
      refine lv_sipush (v := (-1002 : Int32)) hx hb dX6_grow_22 (by decide) ?_
      exact rt (-1002 : Int32) σ 25 _ _ _ dX6_grow_25 h hz
  · replace h := ite_t c4 h
    refine lv_sipush (v := (-1001 : Int32)) hx hb dX6_grow_8 (by decide) ?_
    exact rt (-1001 : Int32) σ 11 _ _ _ dX6_grow_11 h hz
def fX6_itemNow (σ : St) (x1 : Int32) (x2 : Int32) : Option (Int32) :=
  (if x2 = (0 : Int32) then ((ck (¬ (x1 < 0 ∨ 24 ≤ Int32.toNatClampNeg x1)) <| some ((σ 2) (Int32.toNatClampNeg x1)))) else (if x2 = (1 : Int32) then ((ck (¬ (x1 < 0 ∨ 24 ≤ Int32.toNatClampNeg x1)) <| some ((σ 3) (Int32.toNatClampNeg x1)))) else (if x2 = (2 : Int32) then ((ck (¬ (x1 < 0 ∨ 24 ≤ Int32.toNatClampNeg x1)) <| some ((σ 12) (Int32.toNatClampNeg x1)))) else (if x2 = (3 : Int32) then ((ck (¬ (x1 < 0 ∨ 24 ≤ Int32.toNatClampNeg x1)) <| (bd1 (fX6_sizeOf σ x1 ((σ 12) (Int32.toNatClampNeg x1))) fun r9 => some r9))) else (if x2 = (4 : Int32) then ((ck (¬ (x1 < 0 ∨ 24 ≤ Int32.toNatClampNeg x1)) <| (if ((σ 7) (Int32.toNatClampNeg x1)) = 0 then (some (0 : Int32)) else (some (1 : Int32))))) else (bd1 (fX6_goesTo σ x1) fun r15 => some r15))))))
abbrev rmX6_itemNow : Room := { frames := 4, cells := 0, slots := 0, locals := 92 }
set_option maxHeartbeats 4000000 in
set_option maxRecDepth 100000 in
theorem KX6_itemNow {l : Launch} {dC : Nat → ClassId} {dI : Nat → Nat → Nat} {cI cZ : ClassId} {a : Nat → Nat} {hh : Int64} {σ : St} {x1 : Int32} {x2 : Int32} {r : Int32} (hok : okA 18 a) (h : fX6_itemNow σ x1 x2 = some r) (sz : Nat) : Met l yX6_itemNow wsX6_itemNow rmX6_itemNow (Pz (dC, dI) cI cZ (wdM cI cZ a hh σ) sz [.ref (a 0), .int x1, .int x2]) (Qzi (dC, dI) 18 a (wdM cI cZ a hh σ) sz r) 0 0 (aN 18 a sz) := by
  refine Met.ofW (cc := cX6_itemNow) (maxL := 3) (ret := (some .int)) (by decide) rfl ?_
  intro p e s m args below meth c s₁ B hml hv
  obtain ⟨hav, hsz, hP, hKK⟩ := hv
  have hx := B.exec
  have hb := B.bytes
  have hr := B.returns
  have hts := atoms_spec (ws := wsX6_itemNow) B.pre
  have hown : s.vm.findClass RX6 = some m.cls := findClass_of_methodNamed B.named
  have hlocks := B.notSynchronized
  have CF : CallFix p m c cX6_itemNow 3 s args wsX6_itemNow RX6 := ⟨hx, hb, hml, hown, hts⟩
  have hz : zz (dC, dI) 18 a (wdM cI cZ a hh σ) s.heap s.heap [] := ⟨hP, va_S.rf⟩
  have hl := lv_entry [.ref (a 0), .int x1, .int x2] (n := 3) (Nat.le_of_ble_eq_true rfl)
  have hen : entryFrame m args 3 = entryFrame m ([.ref (a 0), .int x1, .int x2] : List Value).toArray 3 := by rw [hav]
  rw [hen, lg_entry_eq]
  generalize (lg_sl [.ref (a 0), .int x1, .int x2] ++ List.replicate (3 - (lg_sl [.ref (a 0), .int x1, .int x2]).length) Slot.unset).toArray = ls at hl ⊢
  have hl : lv_has ls 3 [(0, .ref (a 0)), (1, .int x1), (2, .int x2)] := hl
  have eR : (headSpec wsX6_itemNow rmX6_itemNow).room = rmX6_itemNow := rfl
  rw [eR]
  have rt : ∀ (v : Int32) (t : St) (pc : Nat) (H : Heap) (locs : List Loc) (ls : Array Slot), decode cX6_itemNow pc = .ok (.ireturn, 1) → some v = some r → zz (dC, dI) 18 a (wdM cI cZ a hh σ) s.heap H locs → W p l e rmX6_itemNow s m args below meth c H locs 0 0 (MQ below (Qzi (dC, dI) 18 a (wdM cI cZ a hh σ) sz r) args s 0 0 (aN 18 a sz)) (F0 m pc ls [.int v]) := by
    intro v t pc H locs ls hd h hz
    cases h
    exact ziret hsz hx hb hr hlocks hz hd
  generalize (MQ below (Qzi (dC, dI) 18 a (wdM cI cZ a hh σ) sz r) args s 0 0 (aN 18 a sz)) = Q at rt ⊢
  unfold fX6_itemNow at h
  refine lv_iload_n hx hb dX6_itemNow_0 rfl (lv_at hl 2 rfl) ?_
  by_cases c1 : x2 = (0 : Int32)
  · replace h := ite_t c1 h
    refine lv_tableIn (tgt := 36) (off := 35) hx hb dX6_itemNow_1 (by rw [c1]; decide) (by rw [c1]; decide) (by rw [c1]; rfl) (by decide) ?_
    refine lv_aload_n hx hb dX6_itemNow_36 rfl (lv_at hl 0 rfl) ?_
    refine va_get (v := .ref (a 2)) hx hb hts inX6_itemNow_X6 hown hKK.1 hz.1 0 rfl rfl 3 (by decide) (hts _ (List.mem_of_getElem? (i := 1) rfl)) (fun _ h9 => h9) rfl dX6_itemNow_37 ?_
    refine lv_iload_n hx hb dX6_itemNow_40 rfl (lv_at hl 1 rfl) ?_
    obtain ⟨c2, h⟩ := ck_e h
    refine va_iald (f := (σ 2)) hx hb hKK.1 hz.1 2 0 rfl rfl c2 dX6_itemNow_41 ?_
    exact rt ((σ 2) (Int32.toNatClampNeg x1)) σ 42 _ _ _ dX6_itemNow_42 h hz
  replace h := ite_f c1 h
  by_cases c3 : x2 = (1 : Int32)
  · replace h := ite_t c3 h
    refine lv_tableIn (tgt := 43) (off := 42) hx hb dX6_itemNow_1 (by rw [c3]; decide) (by rw [c3]; decide) (by rw [c3]; rfl) (by decide) ?_
    refine lv_aload_n hx hb dX6_itemNow_43 rfl (lv_at hl 0 rfl) ?_
    refine va_get (v := .ref (a 3)) hx hb hts inX6_itemNow_X6 hown hKK.1 hz.1 0 rfl rfl 4 (by decide) (hts _ (List.mem_of_getElem? (i := 2) rfl)) (fun _ h9 => h9) rfl dX6_itemNow_44 ?_
    refine lv_iload_n hx hb dX6_itemNow_47 rfl (lv_at hl 1 rfl) ?_
    obtain ⟨c4, h⟩ := ck_e h
    refine va_iald (f := (σ 3)) hx hb hKK.1 hz.1 3 0 rfl rfl c4 dX6_itemNow_48 ?_
    exact rt ((σ 3) (Int32.toNatClampNeg x1)) σ 49 _ _ _ dX6_itemNow_49 h hz
  replace h := ite_f c3 h
  by_cases c5 : x2 = (2 : Int32)
  · replace h := ite_t c5 h
    refine lv_tableIn (tgt := 50) (off := 49) hx hb dX6_itemNow_1 (by rw [c5]; decide) (by rw [c5]; decide) (by rw [c5]; rfl) (by decide) ?_
    refine lv_aload_n hx hb dX6_itemNow_50 rfl (lv_at hl 0 rfl) ?_
    refine va_get (v := .ref (a 12)) hx hb hts inX6_itemNow_X6 hown hKK.1 hz.1 0 rfl rfl 21 (by decide) (hts _ (List.mem_of_getElem? (i := 3) rfl)) (fun _ h9 => h9) rfl dX6_itemNow_51 ?_
    refine lv_iload_n hx hb dX6_itemNow_54 rfl (lv_at hl 1 rfl) ?_
    obtain ⟨c6, h⟩ := ck_e h
    refine va_iald (f := (σ 12)) hx hb hKK.1 hz.1 12 0 rfl rfl c6 dX6_itemNow_55 ?_
    exact rt ((σ 12) (Int32.toNatClampNeg x1)) σ 56 _ _ _ dX6_itemNow_56 h hz
  replace h := ite_f c5 h
  by_cases c7 : x2 = (3 : Int32)
  · replace h := ite_t c7 h
    refine lv_tableIn (tgt := 57) (off := 56) hx hb dX6_itemNow_1 (by rw [c7]; decide) (by rw [c7]; decide) (by rw [c7]; rfl) (by decide) ?_
    refine lv_aload_n hx hb dX6_itemNow_57 rfl (lv_at hl 0 rfl) ?_
    refine lv_iload_n hx hb dX6_itemNow_58 rfl (lv_at hl 1 rfl) ?_
    refine lv_aload_n hx hb dX6_itemNow_59 rfl (lv_at hl 0 rfl) ?_
    refine va_get (v := .ref (a 12)) hx hb hts inX6_itemNow_X6 hown hKK.1 hz.1 0 rfl rfl 21 (by decide) (hts _ (List.mem_of_getElem? (i := 3) rfl)) (fun _ h9 => h9) rfl dX6_itemNow_60 ?_
    refine lv_iload_n hx hb dX6_itemNow_63 rfl (lv_at hl 1 rfl) ?_
    obtain ⟨c8, h⟩ := ck_e h
    refine va_iald (f := (σ 12)) hx hb hKK.1 hz.1 12 0 rfl rfl c8 dX6_itemNow_64 ?_
    obtain ⟨r9, e11, h⟩ := bd1_e h
    refine zcallVi (As := [.int x1, .int ((σ 12) (Int32.toNatClampNeg x1))]) (rest := []) CF hKK (KX6_sizeOf (dC := dC) (dI := dI) (cI := cI) (cZ := cZ) (a := a) hok e11) (cwV 2 hts gX6_itemNow_X6_sizeOf rfl rfl rfl cdX6_sizeOf ⟨Nat.le_of_ble_eq_true rfl, Nat.le_of_ble_eq_true rfl⟩) 0 6 rfl rfl hz rfl hl.1 rfl (Nat.le_of_ble_eq_true rfl) dX6_itemNow_65 ⟨Nat.le_refl _, Nat.le_refl _⟩ (fun H locs hz => ?_)
    exact rt r9 σ 68 _ _ _ dX6_itemNow_68 h hz
  replace h := ite_f c7 h
  by_cases c12 : x2 = (4 : Int32)
  · replace h := ite_t c12 h
    refine lv_tableIn (tgt := 69) (off := 68) hx hb dX6_itemNow_1 (by rw [c12]; decide) (by rw [c12]; decide) (by rw [c12]; rfl) (by decide) ?_
    refine lv_aload_n hx hb dX6_itemNow_69 rfl (lv_at hl 0 rfl) ?_
    refine va_get (v := .ref (a 7)) hx hb hts inX6_itemNow_X6 hown hKK.1 hz.1 0 rfl rfl 14 (by decide) (hts _ (List.mem_of_getElem? (i := 4) rfl)) (fun _ h9 => h9) rfl dX6_itemNow_70 ?_
    refine lv_iload_n hx hb dX6_itemNow_73 rfl (lv_at hl 1 rfl) ?_
    obtain ⟨c13, h⟩ := ck_e h
    refine va_zald (f := (σ 7)) hx hb hKK.1 hz.1 7 1 rfl rfl c13 dX6_itemNow_74 ?_
    refine lv_if_eq (tgt := 82) hx hb dX6_itemNow_75 (by decide) (fun c14 => ?_) (fun c14 => ?_)
    · replace h := ite_t c14 h
      refine lv_iconst (v := (0 : Int32)) hx hb dX6_itemNow_82 (by decide) ?_
      exact rt (0 : Int32) σ 83 _ _ _ dX6_itemNow_83 h hz
    · replace h := ite_f c14 h
      refine lv_iconst (v := (1 : Int32)) hx hb dX6_itemNow_78 (by decide) ?_
      refine lv_goto (tgt := 83) hx hb dX6_itemNow_79 (by decide) ?_
      exact rt (1 : Int32) σ 83 _ _ _ dX6_itemNow_83 h hz
  replace h := ite_f c12 h
  refine lv_tableOut (tgt := 84) hx hb dX6_itemNow_1 (by have := lv_neT c1 (a := 0) rfl; have := lv_neT c3 (a := 1) rfl; have := lv_neT c5 (a := 2) rfl; have := lv_neT c7 (a := 3) rfl; have := lv_neT c12 (a := 4) rfl; omega) (by decide) ?_
  refine lv_aload_n hx hb dX6_itemNow_84 rfl (lv_at hl 0 rfl) ?_
  refine lv_iload_n hx hb dX6_itemNow_85 rfl (lv_at hl 1 rfl) ?_
  obtain ⟨r15, e17, h⟩ := bd1_e h
  refine zcallVi (As := [.int x1]) (rest := []) CF hKK (KX6_goesTo (dC := dC) (dI := dI) (cI := cI) (cZ := cZ) (a := a) hok e17) (cwV 1 hts gX6_itemNow_X6_goesTo rfl rfl rfl cdX6_goesTo ⟨Nat.le_of_ble_eq_true rfl, Nat.le_of_ble_eq_true rfl⟩) 0 6 rfl rfl hz rfl hl.1 rfl (Nat.le_of_ble_eq_true rfl) dX6_itemNow_86 ⟨Nat.le_refl _, Nat.le_refl _⟩ (fun H locs hz => ?_)
  exact rt r15 σ 89 _ _ _ dX6_itemNow_89 h hz
def fX6_item (σ : St) (x1 : Int32) (x2 : Int32) : Option (Int32) :=
  (bd1 (fX6_isItem σ x1) fun r1 => (if r1 = 0 then (some (-1001 : Int32)) else ((bd1 (fX6_within σ x2 (0 : Int32) (5 : Int32)) fun r5 => (if r5 = 0 then (some (-1002 : Int32)) else ((bd1 (fX6_itemNow σ x1 x2) fun r9 => some r9)))))))
abbrev rmX6_item : Room := { frames := 5, cells := 0, slots := 0, locals := 114 }
set_option maxHeartbeats 4000000 in
set_option maxRecDepth 100000 in
theorem KX6_item {l : Launch} {dC : Nat → ClassId} {dI : Nat → Nat → Nat} {cI cZ : ClassId} {a : Nat → Nat} {hh : Int64} {σ : St} {x1 : Int32} {x2 : Int32} {r : Int32} (hok : okA 18 a) (h : fX6_item σ x1 x2 = some r) (sz : Nat) : Met l yX6_item wsX6_item rmX6_item (Pz (dC, dI) cI cZ (wdM cI cZ a hh σ) sz [.ref (a 0), .int x1, .int x2]) (Qzi (dC, dI) 18 a (wdM cI cZ a hh σ) sz r) 0 0 (aN 18 a sz) := by
  refine Met.ofW (cc := cX6_item) (maxL := 3) (ret := (some .int)) (by decide) rfl ?_
  intro p e s m args below meth c s₁ B hml hv
  obtain ⟨hav, hsz, hP, hKK⟩ := hv
  have hx := B.exec
  have hb := B.bytes
  have hr := B.returns
  have hts := atoms_spec (ws := wsX6_item) B.pre
  have hown : s.vm.findClass RX6 = some m.cls := findClass_of_methodNamed B.named
  have hlocks := B.notSynchronized
  have CF : CallFix p m c cX6_item 3 s args wsX6_item RX6 := ⟨hx, hb, hml, hown, hts⟩
  have hz : zz (dC, dI) 18 a (wdM cI cZ a hh σ) s.heap s.heap [] := ⟨hP, va_S.rf⟩
  have hl := lv_entry [.ref (a 0), .int x1, .int x2] (n := 3) (Nat.le_of_ble_eq_true rfl)
  have hen : entryFrame m args 3 = entryFrame m ([.ref (a 0), .int x1, .int x2] : List Value).toArray 3 := by rw [hav]
  rw [hen, lg_entry_eq]
  generalize (lg_sl [.ref (a 0), .int x1, .int x2] ++ List.replicate (3 - (lg_sl [.ref (a 0), .int x1, .int x2]).length) Slot.unset).toArray = ls at hl ⊢
  have hl : lv_has ls 3 [(0, .ref (a 0)), (1, .int x1), (2, .int x2)] := hl
  have eR : (headSpec wsX6_item rmX6_item).room = rmX6_item := rfl
  rw [eR]
  have rt : ∀ (v : Int32) (t : St) (pc : Nat) (H : Heap) (locs : List Loc) (ls : Array Slot), decode cX6_item pc = .ok (.ireturn, 1) → some v = some r → zz (dC, dI) 18 a (wdM cI cZ a hh σ) s.heap H locs → W p l e rmX6_item s m args below meth c H locs 0 0 (MQ below (Qzi (dC, dI) 18 a (wdM cI cZ a hh σ) sz r) args s 0 0 (aN 18 a sz)) (F0 m pc ls [.int v]) := by
    intro v t pc H locs ls hd h hz
    cases h
    exact ziret hsz hx hb hr hlocks hz hd
  generalize (MQ below (Qzi (dC, dI) 18 a (wdM cI cZ a hh σ) sz r) args s 0 0 (aN 18 a sz)) = Q at rt ⊢
  unfold fX6_item at h
  refine lv_aload_n hx hb dX6_item_0 rfl (lv_at hl 0 rfl) ?_
  refine lv_iload_n hx hb dX6_item_1 rfl (lv_at hl 1 rfl) ?_
  obtain ⟨r1, e3, h⟩ := bd1_e h
  refine zcallVi (As := [.int x1]) (rest := []) CF hKK (KX6_isItem (dC := dC) (dI := dI) (cI := cI) (cZ := cZ) (a := a) hok e3) (cwV 1 hts gX6_item_X6_isItem rfl rfl rfl cdX6_isItem ⟨Nat.le_of_ble_eq_true rfl, Nat.le_of_ble_eq_true rfl⟩) 0 6 rfl rfl hz rfl hl.1 rfl (Nat.le_of_ble_eq_true rfl) dX6_item_2 ⟨Nat.le_refl _, Nat.le_refl _⟩ (fun H locs hz => ?_)
  refine lv_if_ne (tgt := 12) hx hb dX6_item_5 (by decide) (fun c4 => ?_) (fun c4 => ?_)
  · replace h := ite_f c4 h
    refine lv_iload_n hx hb dX6_item_12 rfl (lv_at hl 2 rfl) ?_
    refine lv_iconst (v := (0 : Int32)) hx hb dX6_item_13 (by decide) ?_
    refine lv_iconst (v := (5 : Int32)) hx hb dX6_item_14 (by decide) ?_
    obtain ⟨r5, e7, h⟩ := bd1_e h
    refine zcallSi (As := [.int x2, .int (0 : Int32), .int (5 : Int32)]) (rest := []) CF hKK (KX6_within (dC := dC) (dI := dI) (cI := cI) (cZ := cZ) (a := a) hok e7) (va_cwS 3 hts gX6_item_X6_within rfl rfl rfl cdX6_within.2 ⟨Nat.le_of_ble_eq_true rfl, Nat.le_of_ble_eq_true rfl⟩) hz rfl hl.1 rfl (Nat.le_of_ble_eq_true rfl) dX6_item_15 ⟨Nat.le_refl _, Nat.le_refl _⟩ (fun H locs hz => ?_)
    refine lv_if_eq (tgt := 30) hx hb dX6_item_18 (by decide) (fun c8 => ?_) (fun c8 => ?_)
    · replace h := ite_t c8 h
      refine lv_sipush (v := (-1002 : Int32)) hx hb dX6_item_30 (by decide) ?_
      exact rt (-1002 : Int32) σ 33 _ _ _ dX6_item_33 h hz
    · replace h := ite_f c8 h
      refine lv_aload_n hx hb dX6_item_21 rfl (lv_at hl 0 rfl) ?_
      refine lv_iload_n hx hb dX6_item_22 rfl (lv_at hl 1 rfl) ?_
      refine lv_iload_n hx hb dX6_item_23 rfl (lv_at hl 2 rfl) ?_
      obtain ⟨r9, e11, h⟩ := bd1_e h
      refine zcallVi (As := [.int x1, .int x2]) (rest := []) CF hKK (KX6_itemNow (dC := dC) (dI := dI) (cI := cI) (cZ := cZ) (a := a) hok e11) (cwV 2 hts gX6_item_X6_itemNow rfl rfl rfl cdX6_itemNow ⟨Nat.le_of_ble_eq_true rfl, Nat.le_of_ble_eq_true rfl⟩) 0 6 rfl rfl hz rfl hl.1 rfl (Nat.le_of_ble_eq_true rfl) dX6_item_24 ⟨Nat.le_refl _, Nat.le_refl _⟩ (fun H locs hz => ?_)
      refine lv_goto (tgt := 33) hx hb dX6_item_27 (by decide) ?_
      exact rt r9 σ 33 _ _ _ dX6_item_33 h hz
  · replace h := ite_t c4 h
    refine lv_sipush (v := (-1001 : Int32)) hx hb dX6_item_8 (by decide) ?_
    exact rt (-1001 : Int32) σ 11 _ _ _ dX6_item_11 h hz
def fX6_islandNow (σ : St) (x1 : Int32) (x2 : Int32) : Option (Int32) :=
  (if x2 = 0 then ((ck (¬ (x1 < 0 ∨ 12 ≤ Int32.toNatClampNeg x1)) <| some ((σ 8) (Int32.toNatClampNeg x1)))) else ((if x2 = (1 : Int32) then ((ck (¬ (x1 < 0 ∨ 12 ≤ Int32.toNatClampNeg x1)) <| some ((σ 9) (Int32.toNatClampNeg x1)))) else ((if x2 = (2 : Int32) then ((ck (¬ (x1 < 0 ∨ 12 ≤ Int32.toNatClampNeg x1)) <| some ((σ 13) (Int32.toNatClampNeg x1)))) else ((ck (¬ (x1 < 0 ∨ 12 ≤ Int32.toNatClampNeg x1)) <| (ck (¬ (x1 < 0 ∨ 12 ≤ Int32.toNatClampNeg x1)) <| (bd1 (fX6_goesFrom σ ((σ 13) (Int32.toNatClampNeg x1)) ((σ 8) (Int32.toNatClampNeg x1))) fun r6 => some r6)))))))))
abbrev rmX6_islandNow : Room := { frames := 3, cells := 0, slots := 0, locals := 70 }
set_option maxHeartbeats 4000000 in
set_option maxRecDepth 100000 in
theorem KX6_islandNow {l : Launch} {dC : Nat → ClassId} {dI : Nat → Nat → Nat} {cI cZ : ClassId} {a : Nat → Nat} {hh : Int64} {σ : St} {x1 : Int32} {x2 : Int32} {r : Int32} (hok : okA 18 a) (h : fX6_islandNow σ x1 x2 = some r) (sz : Nat) : Met l yX6_islandNow wsX6_islandNow rmX6_islandNow (Pz (dC, dI) cI cZ (wdM cI cZ a hh σ) sz [.ref (a 0), .int x1, .int x2]) (Qzi (dC, dI) 18 a (wdM cI cZ a hh σ) sz r) 0 0 (aN 18 a sz) := by
  refine Met.ofW (cc := cX6_islandNow) (maxL := 3) (ret := (some .int)) (by decide) rfl ?_
  intro p e s m args below meth c s₁ B hml hv
  obtain ⟨hav, hsz, hP, hKK⟩ := hv
  have hx := B.exec
  have hb := B.bytes
  have hr := B.returns
  have hts := atoms_spec (ws := wsX6_islandNow) B.pre
  have hown : s.vm.findClass RX6 = some m.cls := findClass_of_methodNamed B.named
  have hlocks := B.notSynchronized
  have CF : CallFix p m c cX6_islandNow 3 s args wsX6_islandNow RX6 := ⟨hx, hb, hml, hown, hts⟩
  have hz : zz (dC, dI) 18 a (wdM cI cZ a hh σ) s.heap s.heap [] := ⟨hP, va_S.rf⟩
  have hl := lv_entry [.ref (a 0), .int x1, .int x2] (n := 3) (Nat.le_of_ble_eq_true rfl)
  have hen : entryFrame m args 3 = entryFrame m ([.ref (a 0), .int x1, .int x2] : List Value).toArray 3 := by rw [hav]
  rw [hen, lg_entry_eq]
  generalize (lg_sl [.ref (a 0), .int x1, .int x2] ++ List.replicate (3 - (lg_sl [.ref (a 0), .int x1, .int x2]).length) Slot.unset).toArray = ls at hl ⊢
  have hl : lv_has ls 3 [(0, .ref (a 0)), (1, .int x1), (2, .int x2)] := hl
  have eR : (headSpec wsX6_islandNow rmX6_islandNow).room = rmX6_islandNow := rfl
  rw [eR]
  have rt : ∀ (v : Int32) (t : St) (pc : Nat) (H : Heap) (locs : List Loc) (ls : Array Slot), decode cX6_islandNow pc = .ok (.ireturn, 1) → some v = some r → zz (dC, dI) 18 a (wdM cI cZ a hh σ) s.heap H locs → W p l e rmX6_islandNow s m args below meth c H locs 0 0 (MQ below (Qzi (dC, dI) 18 a (wdM cI cZ a hh σ) sz r) args s 0 0 (aN 18 a sz)) (F0 m pc ls [.int v]) := by
    intro v t pc H locs ls hd h hz
    cases h
    exact ziret hsz hx hb hr hlocks hz hd
  generalize (MQ below (Qzi (dC, dI) 18 a (wdM cI cZ a hh σ) sz r) args s 0 0 (aN 18 a sz)) = Q at rt ⊢
  unfold fX6_islandNow at h
  refine lv_iload_n hx hb dX6_islandNow_0 rfl (lv_at hl 2 rfl) ?_
  refine lv_if_ne (tgt := 13) hx hb dX6_islandNow_1 (by decide) (fun c1 => ?_) (fun c1 => ?_)
  · replace h := ite_f c1 h
    refine lv_iload_n hx hb dX6_islandNow_13 rfl (lv_at hl 2 rfl) ?_
    refine lv_iconst (v := (1 : Int32)) hx hb dX6_islandNow_14 (by decide) ?_
    refine lv_icmp_ne (tgt := 27) hx hb dX6_islandNow_15 (by decide) (fun c2 => ?_) (fun c2 => ?_)
    · replace h := ite_f c2 h
      refine lv_iload_n hx hb dX6_islandNow_27 rfl (lv_at hl 2 rfl) ?_
      refine lv_iconst (v := (2 : Int32)) hx hb dX6_islandNow_28 (by decide) ?_
      refine lv_icmp_ne (tgt := 41) hx hb dX6_islandNow_29 (by decide) (fun c3 => ?_) (fun c3 => ?_)
      · replace h := ite_f c3 h
        refine lv_aload_n hx hb dX6_islandNow_41 rfl (lv_at hl 0 rfl) ?_
        refine lv_aload_n hx hb dX6_islandNow_42 rfl (lv_at hl 0 rfl) ?_
        refine va_get (v := .ref (a 13)) hx hb hts inX6_islandNow_X6 hown hKK.1 hz.1 0 rfl rfl 22 (by decide) (hts _ (List.mem_of_getElem? (i := 3) rfl)) (fun _ h9 => h9) rfl dX6_islandNow_43 ?_
        refine lv_iload_n hx hb dX6_islandNow_46 rfl (lv_at hl 1 rfl) ?_
        obtain ⟨c4, h⟩ := ck_e h
        refine va_iald (f := (σ 13)) hx hb hKK.1 hz.1 13 0 rfl rfl c4 dX6_islandNow_47 ?_
        refine lv_aload_n hx hb dX6_islandNow_48 rfl (lv_at hl 0 rfl) ?_
        refine va_get (v := .ref (a 8)) hx hb hts inX6_islandNow_X6 hown hKK.1 hz.1 0 rfl rfl 16 (by decide) (hts _ (List.mem_of_getElem? (i := 1) rfl)) (fun _ h9 => h9) rfl dX6_islandNow_49 ?_
        refine lv_iload_n hx hb dX6_islandNow_52 rfl (lv_at hl 1 rfl) ?_
        obtain ⟨c5, h⟩ := ck_e h
        refine va_iald (f := (σ 8)) hx hb hKK.1 hz.1 8 0 rfl rfl c5 dX6_islandNow_53 ?_
        obtain ⟨r6, e8, h⟩ := bd1_e h
        refine zcallVi (As := [.int ((σ 13) (Int32.toNatClampNeg x1)), .int ((σ 8) (Int32.toNatClampNeg x1))]) (rest := []) CF hKK (KX6_goesFrom (dC := dC) (dI := dI) (cI := cI) (cZ := cZ) (a := a) hok e8) (cwV 2 hts gX6_islandNow_X6_goesFrom rfl rfl rfl cdX6_goesFrom ⟨Nat.le_of_ble_eq_true rfl, Nat.le_of_ble_eq_true rfl⟩) 0 6 rfl rfl hz rfl hl.1 rfl (Nat.le_of_ble_eq_true rfl) dX6_islandNow_54 ⟨Nat.le_refl _, Nat.le_refl _⟩ (fun H locs hz => ?_)
        exact rt r6 σ 57 _ _ _ dX6_islandNow_57 h hz
      · replace h := ite_t c3 h
        refine lv_aload_n hx hb dX6_islandNow_32 rfl (lv_at hl 0 rfl) ?_
        refine va_get (v := .ref (a 13)) hx hb hts inX6_islandNow_X6 hown hKK.1 hz.1 0 rfl rfl 22 (by decide) (hts _ (List.mem_of_getElem? (i := 3) rfl)) (fun _ h9 => h9) rfl dX6_islandNow_33 ?_
        refine lv_iload_n hx hb dX6_islandNow_36 rfl (lv_at hl 1 rfl) ?_
        obtain ⟨c9, h⟩ := ck_e h
        refine va_iald (f := (σ 13)) hx hb hKK.1 hz.1 13 0 rfl rfl c9 dX6_islandNow_37 ?_
        refine lv_goto (tgt := 57) hx hb dX6_islandNow_38 (by decide) ?_
        exact rt ((σ 13) (Int32.toNatClampNeg x1)) σ 57 _ _ _ dX6_islandNow_57 h hz
    · replace h := ite_t c2 h
      refine lv_aload_n hx hb dX6_islandNow_18 rfl (lv_at hl 0 rfl) ?_
      refine va_get (v := .ref (a 9)) hx hb hts inX6_islandNow_X6 hown hKK.1 hz.1 0 rfl rfl 17 (by decide) (hts _ (List.mem_of_getElem? (i := 2) rfl)) (fun _ h9 => h9) rfl dX6_islandNow_19 ?_
      refine lv_iload_n hx hb dX6_islandNow_22 rfl (lv_at hl 1 rfl) ?_
      obtain ⟨c10, h⟩ := ck_e h
      refine va_iald (f := (σ 9)) hx hb hKK.1 hz.1 9 0 rfl rfl c10 dX6_islandNow_23 ?_
      refine lv_goto (tgt := 57) hx hb dX6_islandNow_24 (by decide) ?_
      exact rt ((σ 9) (Int32.toNatClampNeg x1)) σ 57 _ _ _ dX6_islandNow_57 h hz
  · replace h := ite_t c1 h
    refine lv_aload_n hx hb dX6_islandNow_4 rfl (lv_at hl 0 rfl) ?_
    refine va_get (v := .ref (a 8)) hx hb hts inX6_islandNow_X6 hown hKK.1 hz.1 0 rfl rfl 16 (by decide) (hts _ (List.mem_of_getElem? (i := 1) rfl)) (fun _ h9 => h9) rfl dX6_islandNow_5 ?_
    refine lv_iload_n hx hb dX6_islandNow_8 rfl (lv_at hl 1 rfl) ?_
    obtain ⟨c11, h⟩ := ck_e h
    refine va_iald (f := (σ 8)) hx hb hKK.1 hz.1 8 0 rfl rfl c11 dX6_islandNow_9 ?_
    refine lv_goto (tgt := 57) hx hb dX6_islandNow_10 (by decide) ?_
    exact rt ((σ 8) (Int32.toNatClampNeg x1)) σ 57 _ _ _ dX6_islandNow_57 h hz
def fX6_island (σ : St) (x1 : Int32) (x2 : Int32) : Option (Int32) :=
  (bd1 (fX6_within σ x1 (0 : Int32) ((σ 48 0) - (1 : Int32))) fun r1 => (if r1 = 0 then (some (-1001 : Int32)) else ((bd1 (fX6_within σ x2 (0 : Int32) (3 : Int32)) fun r5 => (if r5 = 0 then (some (-1002 : Int32)) else ((bd1 (fX6_islandNow σ x1 x2) fun r9 => some r9)))))))
abbrev rmX6_island : Room := { frames := 4, cells := 0, slots := 0, locals := 92 }
set_option maxHeartbeats 4000000 in
set_option maxRecDepth 100000 in
theorem KX6_island {l : Launch} {dC : Nat → ClassId} {dI : Nat → Nat → Nat} {cI cZ : ClassId} {a : Nat → Nat} {hh : Int64} {σ : St} {x1 : Int32} {x2 : Int32} {r : Int32} (hok : okA 18 a) (h : fX6_island σ x1 x2 = some r) (sz : Nat) : Met l yX6_island wsX6_island rmX6_island (Pz (dC, dI) cI cZ (wdM cI cZ a hh σ) sz [.ref (a 0), .int x1, .int x2]) (Qzi (dC, dI) 18 a (wdM cI cZ a hh σ) sz r) 0 0 (aN 18 a sz) := by
  refine Met.ofW (cc := cX6_island) (maxL := 3) (ret := (some .int)) (by decide) rfl ?_
  intro p e s m args below meth c s₁ B hml hv
  obtain ⟨hav, hsz, hP, hKK⟩ := hv
  have hx := B.exec
  have hb := B.bytes
  have hr := B.returns
  have hts := atoms_spec (ws := wsX6_island) B.pre
  have hown : s.vm.findClass RX6 = some m.cls := findClass_of_methodNamed B.named
  have hlocks := B.notSynchronized
  have CF : CallFix p m c cX6_island 3 s args wsX6_island RX6 := ⟨hx, hb, hml, hown, hts⟩
  have hz : zz (dC, dI) 18 a (wdM cI cZ a hh σ) s.heap s.heap [] := ⟨hP, va_S.rf⟩
  have hl := lv_entry [.ref (a 0), .int x1, .int x2] (n := 3) (Nat.le_of_ble_eq_true rfl)
  have hen : entryFrame m args 3 = entryFrame m ([.ref (a 0), .int x1, .int x2] : List Value).toArray 3 := by rw [hav]
  rw [hen, lg_entry_eq]
  generalize (lg_sl [.ref (a 0), .int x1, .int x2] ++ List.replicate (3 - (lg_sl [.ref (a 0), .int x1, .int x2]).length) Slot.unset).toArray = ls at hl ⊢
  have hl : lv_has ls 3 [(0, .ref (a 0)), (1, .int x1), (2, .int x2)] := hl
  have eR : (headSpec wsX6_island rmX6_island).room = rmX6_island := rfl
  rw [eR]
  have rt : ∀ (v : Int32) (t : St) (pc : Nat) (H : Heap) (locs : List Loc) (ls : Array Slot), decode cX6_island pc = .ok (.ireturn, 1) → some v = some r → zz (dC, dI) 18 a (wdM cI cZ a hh σ) s.heap H locs → W p l e rmX6_island s m args below meth c H locs 0 0 (MQ below (Qzi (dC, dI) 18 a (wdM cI cZ a hh σ) sz r) args s 0 0 (aN 18 a sz)) (F0 m pc ls [.int v]) := by
    intro v t pc H locs ls hd h hz
    cases h
    exact ziret hsz hx hb hr hlocks hz hd
  generalize (MQ below (Qzi (dC, dI) 18 a (wdM cI cZ a hh σ) sz r) args s 0 0 (aN 18 a sz)) = Q at rt ⊢
  unfold fX6_island at h
  refine lv_iload_n hx hb dX6_island_0 rfl (lv_at hl 1 rfl) ?_
  refine lv_iconst (v := (0 : Int32)) hx hb dX6_island_1 (by decide) ?_
  refine lv_aload_n hx hb dX6_island_2 rfl (lv_at hl 0 rfl) ?_
  refine va_get (v := .int (σ 48 0)) hx hb hts inX6_island_X6 hown hKK.1 hz.1 0 rfl rfl 15 (by decide) (hts _ (List.mem_of_getElem? (i := 1) rfl)) (fun _ h9 => h9) rfl dX6_island_3 ?_
  refine lv_iconst (v := (1 : Int32)) hx hb dX6_island_6 (by decide) ?_
  refine lv_isub hx hb dX6_island_7 ?_
  obtain ⟨r1, e3, h⟩ := bd1_e h
  refine zcallSi (As := [.int x1, .int (0 : Int32), .int ((σ 48 0) - (1 : Int32))]) (rest := []) CF hKK (KX6_within (dC := dC) (dI := dI) (cI := cI) (cZ := cZ) (a := a) hok e3) (va_cwS 3 hts gX6_island_X6_within rfl rfl rfl cdX6_within.2 ⟨Nat.le_of_ble_eq_true rfl, Nat.le_of_ble_eq_true rfl⟩) hz rfl hl.1 rfl (Nat.le_of_ble_eq_true rfl) dX6_island_8 ⟨Nat.le_refl _, Nat.le_refl _⟩ (fun H locs hz => ?_)
  refine lv_if_ne (tgt := 18) hx hb dX6_island_11 (by decide) (fun c4 => ?_) (fun c4 => ?_)
  · replace h := ite_f c4 h
    refine lv_iload_n hx hb dX6_island_18 rfl (lv_at hl 2 rfl) ?_
    refine lv_iconst (v := (0 : Int32)) hx hb dX6_island_19 (by decide) ?_
    refine lv_iconst (v := (3 : Int32)) hx hb dX6_island_20 (by decide) ?_
    obtain ⟨r5, e7, h⟩ := bd1_e h
    refine zcallSi (As := [.int x2, .int (0 : Int32), .int (3 : Int32)]) (rest := []) CF hKK (KX6_within (dC := dC) (dI := dI) (cI := cI) (cZ := cZ) (a := a) hok e7) (va_cwS 3 hts gX6_island_X6_within rfl rfl rfl cdX6_within.2 ⟨Nat.le_of_ble_eq_true rfl, Nat.le_of_ble_eq_true rfl⟩) hz rfl hl.1 rfl (Nat.le_of_ble_eq_true rfl) dX6_island_21 ⟨Nat.le_refl _, Nat.le_refl _⟩ (fun H locs hz => ?_)
    refine lv_if_eq (tgt := 36) hx hb dX6_island_24 (by decide) (fun c8 => ?_) (fun c8 => ?_)
    · replace h := ite_t c8 h
      refine lv_sipush (v := (-1002 : Int32)) hx hb dX6_island_36 (by decide) ?_
      exact rt (-1002 : Int32) σ 39 _ _ _ dX6_island_39 h hz
    · replace h := ite_f c8 h
      refine lv_aload_n hx hb dX6_island_27 rfl (lv_at hl 0 rfl) ?_
      refine lv_iload_n hx hb dX6_island_28 rfl (lv_at hl 1 rfl) ?_
      refine lv_iload_n hx hb dX6_island_29 rfl (lv_at hl 2 rfl) ?_
      obtain ⟨r9, e11, h⟩ := bd1_e h
      refine zcallVi (As := [.int x1, .int x2]) (rest := []) CF hKK (KX6_islandNow (dC := dC) (dI := dI) (cI := cI) (cZ := cZ) (a := a) hok e11) (cwV 2 hts gX6_island_X6_islandNow rfl rfl rfl cdX6_islandNow ⟨Nat.le_of_ble_eq_true rfl, Nat.le_of_ble_eq_true rfl⟩) 0 6 rfl rfl hz rfl hl.1 rfl (Nat.le_of_ble_eq_true rfl) dX6_island_30 ⟨Nat.le_refl _, Nat.le_refl _⟩ (fun H locs hz => ?_)
      refine lv_goto (tgt := 39) hx hb dX6_island_33 (by decide) ?_
      exact rt r9 σ 39 _ _ _ dX6_island_39 h hz
  · replace h := ite_t c4 h
    refine lv_sipush (v := (-1001 : Int32)) hx hb dX6_island_14 (by decide) ?_
    exact rt (-1001 : Int32) σ 17 _ _ _ dX6_island_17 h hz
def fX6_loadsOf_b36 (σ : St) (k4 : Int32 → Int32 → Int32 → Option (Int32)) (y1 : Int32) (y3 : Int32) (t0 : Int32) : Option (Int32) :=
  k4 y1 (t0 + (0 : Int32)) (y3 + (1 : Int32))
def fX6_loadsOf_s4 (σ : St) (k4 : Int32 → Int32 → Int32 → Option (Int32)) (y1 : Int32) (y2 : Int32) (y3 : Int32) : Option (Int32) :=
  (if (σ 41 0) ≤ y3 then (some y2) else ((ck (¬ (y3 < 0 ∨ 24 ≤ Int32.toNatClampNeg y3)) <| (if ((σ 2) (Int32.toNatClampNeg y3)) = (1 : Int32) then ((bd1 (fX6_constantFor σ y3) fun r4 => (if r4 = y1 then (k4 y1 (y2 + (1 : Int32)) (y3 + (1 : Int32))) else (fX6_loadsOf_b36 σ k4 y1 y3 y2)))) else (fX6_loadsOf_b36 σ k4 y1 y3 y2)))))
def fX6_loadsOf_l4 (σ : St)  : Nat → Int32 → Int32 → Int32 → Option (Int32) :=
  itr (fX6_loadsOf_s4 σ ) (fun _ _ _ => none)
def fX6_loadsOf (σ : St) (x1 : Int32) : Option (Int32) :=
  fX6_loadsOf_l4 σ  FU x1 (0 : Int32) (0 : Int32)
abbrev rmX6_loadsOf : Room := { frames := 1, cells := 0, slots := 0, locals := 24 }
set_option maxHeartbeats 4000000 in
set_option maxRecDepth 100000 in
theorem KX6_loadsOf {l : Launch} {dC : Nat → ClassId} {dI : Nat → Nat → Nat} {cI cZ : ClassId} {a : Nat → Nat} {hh : Int64} {σ : St} {x1 : Int32} {r : Int32} (hok : okA 18 a) (h : fX6_loadsOf σ x1 = some r) (sz : Nat) : Met l yX6_loadsOf wsX6_loadsOf rmX6_loadsOf (Pz (dC, dI) cI cZ (wdM cI cZ a hh σ) sz [.ref (a 0), .int x1]) (Qzi (dC, dI) 18 a (wdM cI cZ a hh σ) sz r) 0 0 (aN 18 a sz) := by
  refine Met.ofW (cc := cX6_loadsOf) (maxL := 4) (ret := (some .int)) (by decide) rfl ?_
  intro p e s m args below meth c s₁ B hml hv
  obtain ⟨hav, hsz, hP, hKK⟩ := hv
  have hx := B.exec
  have hb := B.bytes
  have hr := B.returns
  have hts := atoms_spec (ws := wsX6_loadsOf) B.pre
  have hown : s.vm.findClass RX6 = some m.cls := findClass_of_methodNamed B.named
  have hlocks := B.notSynchronized
  have CF : CallFix p m c cX6_loadsOf 4 s args wsX6_loadsOf RX6 := ⟨hx, hb, hml, hown, hts⟩
  have hz : zz (dC, dI) 18 a (wdM cI cZ a hh σ) s.heap s.heap [] := ⟨hP, va_S.rf⟩
  have hl := lv_entry [.ref (a 0), .int x1] (n := 4) (Nat.le_of_ble_eq_true rfl)
  have hen : entryFrame m args 4 = entryFrame m ([.ref (a 0), .int x1] : List Value).toArray 4 := by rw [hav]
  rw [hen, lg_entry_eq]
  generalize (lg_sl [.ref (a 0), .int x1] ++ List.replicate (4 - (lg_sl [.ref (a 0), .int x1]).length) Slot.unset).toArray = ls at hl ⊢
  have hl : lv_has ls 4 [(0, .ref (a 0)), (1, .int x1)] := hl
  have eR : (headSpec wsX6_loadsOf rmX6_loadsOf).room = rmX6_loadsOf := rfl
  rw [eR]
  have rt : ∀ (v : Int32) (t : St) (pc : Nat) (H : Heap) (locs : List Loc) (ls : Array Slot), decode cX6_loadsOf pc = .ok (.ireturn, 1) → some v = some r → zz (dC, dI) 18 a (wdM cI cZ a hh σ) s.heap H locs → W p l e rmX6_loadsOf s m args below meth c H locs 0 0 (MQ below (Qzi (dC, dI) 18 a (wdM cI cZ a hh σ) sz r) args s 0 0 (aN 18 a sz)) (F0 m pc ls [.int v]) := by
    intro v t pc H locs ls hd h hz
    cases h
    exact ziret hsz hx hb hr hlocks hz hd
  generalize (MQ below (Qzi (dC, dI) 18 a (wdM cI cZ a hh σ) sz r) args s 0 0 (aN 18 a sz)) = Q at rt ⊢
  have b36 : ∀ (k4 : Int32 → Int32 → Int32 → Option (Int32)) (hk4 : (∀ (y1 : Int32) (y2 : Int32) (y3 : Int32) (H : Heap) (locs : List Loc) (ls : Array Slot), k4 y1 y2 y3 = some r → zz (dC, dI) 18 a (wdM cI cZ a hh σ) s.heap H locs → lv_has ls 4 [(0, .ref (a 0)), (1, .int y1), (2, .int y2), (3, .int y3)] → W p l e rmX6_loadsOf s m args below meth c H locs 0 0 Q (F0 m 4 ls []))) (y1 : Int32) (y3 : Int32) (t0 : Int32) (H : Heap) (locs : List Loc) (ls : Array Slot), fX6_loadsOf_b36 σ k4 y1 y3 t0 = some r → zz (dC, dI) 18 a (wdM cI cZ a hh σ) s.heap H locs → lv_has ls 4 [(0, .ref (a 0)), (1, .int y1), (3, .int y3)] → W p l e rmX6_loadsOf s m args below meth c H locs 0 0 Q (F0 m 36 ls [.int t0]) := by
    intro k4 hk4 y1 y3 t0 H locs ls h hz hl
    unfold fX6_loadsOf_b36 at h
    refine lv_iconst (v := (0 : Int32)) hx hb dX6_loadsOf_36 (by decide) ?_
    refine lv_iadd hx hb dX6_loadsOf_37 ?_
    refine lv_istore_n (lv' := [(2, .int (t0 + (0 : Int32))), (0, .ref (a 0)), (1, .int y1), (3, .int y3)]) hx hb dX6_loadsOf_38 rfl hl (by decide) rfl (fun ls hl => ?_)
    refine lv_iinc (v := (y3 + (1 : Int32))) (lv' := [(3, .int (y3 + (1 : Int32))), (2, .int (t0 + (0 : Int32))), (0, .ref (a 0)), (1, .int y1)]) hx hb dX6_loadsOf_39 hl (k := 3) rfl rfl (by decide) rfl (fun ls hl => ?_)
    refine lv_goto (tgt := 4) hx hb dX6_loadsOf_42 (by decide) ?_
    exact hk4 y1 (t0 + (0 : Int32)) (y3 + (1 : Int32)) _ _ _ h hz (lv_sub hl [2, 3, 1, 0] rfl)
  have s4 : ∀ (k4 : Int32 → Int32 → Int32 → Option (Int32)) (hk4 : (∀ (y1 : Int32) (y2 : Int32) (y3 : Int32) (H : Heap) (locs : List Loc) (ls : Array Slot), k4 y1 y2 y3 = some r → zz (dC, dI) 18 a (wdM cI cZ a hh σ) s.heap H locs → lv_has ls 4 [(0, .ref (a 0)), (1, .int y1), (2, .int y2), (3, .int y3)] → W p l e rmX6_loadsOf s m args below meth c H locs 0 0 Q (F0 m 4 ls []))) (y1 : Int32) (y2 : Int32) (y3 : Int32) (H : Heap) (locs : List Loc) (ls : Array Slot), fX6_loadsOf_s4 σ k4 y1 y2 y3 = some r → zz (dC, dI) 18 a (wdM cI cZ a hh σ) s.heap H locs → lv_has ls 4 [(0, .ref (a 0)), (1, .int y1), (2, .int y2), (3, .int y3)] → W p l e rmX6_loadsOf s m args below meth c H locs 0 0 Q (F0 m 4 ls []) := by
    intro k4 hk4 y1 y2 y3 H locs ls h hz hl
    unfold fX6_loadsOf_s4 at h
    refine lv_iload_n hx hb dX6_loadsOf_4 rfl (lv_at hl 3 rfl) ?_
    refine lv_aload_n hx hb dX6_loadsOf_5 rfl (lv_at hl 0 rfl) ?_
    refine va_get (v := .int (σ 41 0)) hx hb hts inX6_loadsOf_X6 hown hKK.1 hz.1 0 rfl rfl 2 (by decide) (hts _ (List.mem_of_getElem? (i := 1) rfl)) (fun _ h9 => h9) rfl dX6_loadsOf_6 ?_
    refine lv_icmp_ge (tgt := 45) hx hb dX6_loadsOf_9 (by decide) (fun c1 => ?_) (fun c1 => ?_)
    · replace h := ite_t c1 h
      refine lv_iload_n hx hb dX6_loadsOf_45 rfl (lv_at hl 2 rfl) ?_
      exact rt y2 σ 46 _ _ _ dX6_loadsOf_46 h hz
    · replace h := ite_f c1 h
      refine lv_iload_n hx hb dX6_loadsOf_12 rfl (lv_at hl 2 rfl) ?_
      refine lv_aload_n hx hb dX6_loadsOf_13 rfl (lv_at hl 0 rfl) ?_
      refine va_get (v := .ref (a 2)) hx hb hts inX6_loadsOf_X6 hown hKK.1 hz.1 0 rfl rfl 3 (by decide) (hts _ (List.mem_of_getElem? (i := 2) rfl)) (fun _ h9 => h9) rfl dX6_loadsOf_14 ?_
      refine lv_iload_n hx hb dX6_loadsOf_17 rfl (lv_at hl 3 rfl) ?_
      obtain ⟨c2, h⟩ := ck_e h
      refine va_iald (f := (σ 2)) hx hb hKK.1 hz.1 2 0 rfl rfl c2 dX6_loadsOf_18 ?_
      refine lv_iconst (v := (1 : Int32)) hx hb dX6_loadsOf_19 (by decide) ?_
      refine lv_icmp_ne (tgt := 36) hx hb dX6_loadsOf_20 (by decide) (fun c3 => ?_) (fun c3 => ?_)
      · replace h := ite_f c3 h
        exact b36 k4 hk4 y1 y3 y2 _ _ _ h hz (lv_sub hl [0, 1, 3] rfl)
      · replace h := ite_t c3 h
        refine lv_aload_n hx hb dX6_loadsOf_23 rfl (lv_at hl 0 rfl) ?_
        refine lv_iload_n hx hb dX6_loadsOf_24 rfl (lv_at hl 3 rfl) ?_
        obtain ⟨r4, e6, h⟩ := bd1_e h
        refine zcallVi (As := [.int y3]) (rest := [.int y2]) CF hKK (KX6_constantFor (dC := dC) (dI := dI) (cI := cI) (cZ := cZ) (a := a) hok e6) (cwV 1 hts gX6_loadsOf_X6_constantFor rfl rfl rfl cdX6_constantFor ⟨Nat.le_of_ble_eq_true rfl, Nat.le_of_ble_eq_true rfl⟩) 0 6 rfl rfl hz rfl hl.1 rfl (Nat.le_of_ble_eq_true rfl) dX6_loadsOf_25 ⟨Nat.le_refl _, Nat.le_refl _⟩ (fun H locs hz => ?_)
        refine lv_iload_n hx hb dX6_loadsOf_28 rfl (lv_at hl 1 rfl) ?_
        refine lv_icmp_ne (tgt := 36) hx hb dX6_loadsOf_29 (by decide) (fun c7 => ?_) (fun c7 => ?_)
        · replace h := ite_f c7 h
          exact b36 k4 hk4 y1 y3 y2 _ _ _ h hz (lv_sub hl [0, 1, 3] rfl)
        · replace h := ite_t c7 h
          refine lv_iconst (v := (1 : Int32)) hx hb dX6_loadsOf_32 (by decide) ?_
          refine lv_goto (tgt := 37) hx hb dX6_loadsOf_33 (by decide) ?_
          refine lv_iadd hx hb dX6_loadsOf_37 ?_
          refine lv_istore_n (lv' := [(2, .int (y2 + (1 : Int32))), (0, .ref (a 0)), (1, .int y1), (3, .int y3)]) hx hb dX6_loadsOf_38 rfl hl (by decide) rfl (fun ls hl => ?_)
          refine lv_iinc (v := (y3 + (1 : Int32))) (lv' := [(3, .int (y3 + (1 : Int32))), (2, .int (y2 + (1 : Int32))), (0, .ref (a 0)), (1, .int y1)]) hx hb dX6_loadsOf_39 hl (k := 3) rfl rfl (by decide) rfl (fun ls hl => ?_)
          refine lv_goto (tgt := 4) hx hb dX6_loadsOf_42 (by decide) ?_
          exact hk4 y1 (y2 + (1 : Int32)) (y3 + (1 : Int32)) _ _ _ h hz (lv_sub hl [2, 3, 1, 0] rfl)
  have l4 : ∀  (n : Nat), ∀ (y1 : Int32) (y2 : Int32) (y3 : Int32) (H : Heap) (locs : List Loc) (ls : Array Slot), fX6_loadsOf_l4 σ  n y1 y2 y3 = some r → zz (dC, dI) 18 a (wdM cI cZ a hh σ) s.heap H locs → lv_has ls 4 [(0, .ref (a 0)), (1, .int y1), (2, .int y2), (3, .int y3)] → W p l e rmX6_loadsOf s m args below meth c H locs 0 0 Q (F0 m 4 ls []) := by
    intro  n
    induction n with
    | zero => intro y1 y2 y3 H locs ls h; exact nomatch h
    | succ n ih => exact s4  (fX6_loadsOf_l4 σ  n) ih
  unfold fX6_loadsOf at h
  refine lv_iconst (v := (0 : Int32)) hx hb dX6_loadsOf_0 (by decide) ?_
  refine lv_istore_n (lv' := [(2, .int (0 : Int32)), (0, .ref (a 0)), (1, .int x1)]) hx hb dX6_loadsOf_1 rfl hl (by decide) rfl (fun ls hl => ?_)
  refine lv_iconst (v := (0 : Int32)) hx hb dX6_loadsOf_2 (by decide) ?_
  refine lv_istore_n (lv' := [(3, .int (0 : Int32)), (2, .int (0 : Int32)), (0, .ref (a 0)), (1, .int x1)]) hx hb dX6_loadsOf_3 rfl hl (by decide) rfl (fun ls hl => ?_)
  exact l4  FU x1 (0 : Int32) (0 : Int32) _ _ _ h hz (lv_sub hl [2, 3, 1, 0] rfl)
def fX6_constantNow (σ : St) (x1 : Int32) (x2 : Int32) : Option (Int32) :=
  (if x2 = 0 then ((ck (¬ (x1 < 0 ∨ 16 ≤ Int32.toNatClampNeg x1)) <| some ((σ 10) (Int32.toNatClampNeg x1)))) else ((if x2 = (1 : Int32) then ((ck (¬ (x1 < 0 ∨ 16 ≤ Int32.toNatClampNeg x1)) <| some ((σ 11) (Int32.toNatClampNeg x1)))) else ((if x2 = (2 : Int32) then ((ck (¬ (x1 < 0 ∨ 16 ≤ Int32.toNatClampNeg x1)) <| some ((σ 14) (Int32.toNatClampNeg x1)))) else ((bd1 (fX6_loadsOf σ x1) fun r4 => some r4)))))))
abbrev rmX6_constantNow : Room := { frames := 2, cells := 0, slots := 0, locals := 47 }
set_option maxHeartbeats 4000000 in
set_option maxRecDepth 100000 in
theorem KX6_constantNow {l : Launch} {dC : Nat → ClassId} {dI : Nat → Nat → Nat} {cI cZ : ClassId} {a : Nat → Nat} {hh : Int64} {σ : St} {x1 : Int32} {x2 : Int32} {r : Int32} (hok : okA 18 a) (h : fX6_constantNow σ x1 x2 = some r) (sz : Nat) : Met l yX6_constantNow wsX6_constantNow rmX6_constantNow (Pz (dC, dI) cI cZ (wdM cI cZ a hh σ) sz [.ref (a 0), .int x1, .int x2]) (Qzi (dC, dI) 18 a (wdM cI cZ a hh σ) sz r) 0 0 (aN 18 a sz) := by
  refine Met.ofW (cc := cX6_constantNow) (maxL := 3) (ret := (some .int)) (by decide) rfl ?_
  intro p e s m args below meth c s₁ B hml hv
  obtain ⟨hav, hsz, hP, hKK⟩ := hv
  have hx := B.exec
  have hb := B.bytes
  have hr := B.returns
  have hts := atoms_spec (ws := wsX6_constantNow) B.pre
  have hown : s.vm.findClass RX6 = some m.cls := findClass_of_methodNamed B.named
  have hlocks := B.notSynchronized
  have CF : CallFix p m c cX6_constantNow 3 s args wsX6_constantNow RX6 := ⟨hx, hb, hml, hown, hts⟩
  have hz : zz (dC, dI) 18 a (wdM cI cZ a hh σ) s.heap s.heap [] := ⟨hP, va_S.rf⟩
  have hl := lv_entry [.ref (a 0), .int x1, .int x2] (n := 3) (Nat.le_of_ble_eq_true rfl)
  have hen : entryFrame m args 3 = entryFrame m ([.ref (a 0), .int x1, .int x2] : List Value).toArray 3 := by rw [hav]
  rw [hen, lg_entry_eq]
  generalize (lg_sl [.ref (a 0), .int x1, .int x2] ++ List.replicate (3 - (lg_sl [.ref (a 0), .int x1, .int x2]).length) Slot.unset).toArray = ls at hl ⊢
  have hl : lv_has ls 3 [(0, .ref (a 0)), (1, .int x1), (2, .int x2)] := hl
  have eR : (headSpec wsX6_constantNow rmX6_constantNow).room = rmX6_constantNow := rfl
  rw [eR]
  have rt : ∀ (v : Int32) (t : St) (pc : Nat) (H : Heap) (locs : List Loc) (ls : Array Slot), decode cX6_constantNow pc = .ok (.ireturn, 1) → some v = some r → zz (dC, dI) 18 a (wdM cI cZ a hh σ) s.heap H locs → W p l e rmX6_constantNow s m args below meth c H locs 0 0 (MQ below (Qzi (dC, dI) 18 a (wdM cI cZ a hh σ) sz r) args s 0 0 (aN 18 a sz)) (F0 m pc ls [.int v]) := by
    intro v t pc H locs ls hd h hz
    cases h
    exact ziret hsz hx hb hr hlocks hz hd
  generalize (MQ below (Qzi (dC, dI) 18 a (wdM cI cZ a hh σ) sz r) args s 0 0 (aN 18 a sz)) = Q at rt ⊢
  unfold fX6_constantNow at h
  refine lv_iload_n hx hb dX6_constantNow_0 rfl (lv_at hl 2 rfl) ?_
  refine lv_if_ne (tgt := 13) hx hb dX6_constantNow_1 (by decide) (fun c1 => ?_) (fun c1 => ?_)
  · replace h := ite_f c1 h
    refine lv_iload_n hx hb dX6_constantNow_13 rfl (lv_at hl 2 rfl) ?_
    refine lv_iconst (v := (1 : Int32)) hx hb dX6_constantNow_14 (by decide) ?_
    refine lv_icmp_ne (tgt := 27) hx hb dX6_constantNow_15 (by decide) (fun c2 => ?_) (fun c2 => ?_)
    · replace h := ite_f c2 h
      refine lv_iload_n hx hb dX6_constantNow_27 rfl (lv_at hl 2 rfl) ?_
      refine lv_iconst (v := (2 : Int32)) hx hb dX6_constantNow_28 (by decide) ?_
      refine lv_icmp_ne (tgt := 41) hx hb dX6_constantNow_29 (by decide) (fun c3 => ?_) (fun c3 => ?_)
      · replace h := ite_f c3 h
        refine lv_aload_n hx hb dX6_constantNow_41 rfl (lv_at hl 0 rfl) ?_
        refine lv_iload_n hx hb dX6_constantNow_42 rfl (lv_at hl 1 rfl) ?_
        obtain ⟨r4, e6, h⟩ := bd1_e h
        refine zcallVi (As := [.int x1]) (rest := []) CF hKK (KX6_loadsOf (dC := dC) (dI := dI) (cI := cI) (cZ := cZ) (a := a) hok e6) (cwV 1 hts gX6_constantNow_X6_loadsOf rfl rfl rfl cdX6_loadsOf ⟨Nat.le_of_ble_eq_true rfl, Nat.le_of_ble_eq_true rfl⟩) 0 6 rfl rfl hz rfl hl.1 rfl (Nat.le_of_ble_eq_true rfl) dX6_constantNow_43 ⟨Nat.le_refl _, Nat.le_refl _⟩ (fun H locs hz => ?_)
        exact rt r4 σ 46 _ _ _ dX6_constantNow_46 h hz
      · replace h := ite_t c3 h
        refine lv_aload_n hx hb dX6_constantNow_32 rfl (lv_at hl 0 rfl) ?_
        refine va_get (v := .ref (a 14)) hx hb hts inX6_constantNow_X6 hown hKK.1 hz.1 0 rfl rfl 23 (by decide) (hts _ (List.mem_of_getElem? (i := 3) rfl)) (fun _ h9 => h9) rfl dX6_constantNow_33 ?_
        refine lv_iload_n hx hb dX6_constantNow_36 rfl (lv_at hl 1 rfl) ?_
        obtain ⟨c7, h⟩ := ck_e h
        refine va_iald (f := (σ 14)) hx hb hKK.1 hz.1 14 0 rfl rfl c7 dX6_constantNow_37 ?_
        refine lv_goto (tgt := 46) hx hb dX6_constantNow_38 (by decide) ?_
        exact rt ((σ 14) (Int32.toNatClampNeg x1)) σ 46 _ _ _ dX6_constantNow_46 h hz
    · replace h := ite_t c2 h
      refine lv_aload_n hx hb dX6_constantNow_18 rfl (lv_at hl 0 rfl) ?_
      refine va_get (v := .ref (a 11)) hx hb hts inX6_constantNow_X6 hown hKK.1 hz.1 0 rfl rfl 20 (by decide) (hts _ (List.mem_of_getElem? (i := 2) rfl)) (fun _ h9 => h9) rfl dX6_constantNow_19 ?_
      refine lv_iload_n hx hb dX6_constantNow_22 rfl (lv_at hl 1 rfl) ?_
      obtain ⟨c8, h⟩ := ck_e h
      refine va_iald (f := (σ 11)) hx hb hKK.1 hz.1 11 0 rfl rfl c8 dX6_constantNow_23 ?_
      refine lv_goto (tgt := 46) hx hb dX6_constantNow_24 (by decide) ?_
      exact rt ((σ 11) (Int32.toNatClampNeg x1)) σ 46 _ _ _ dX6_constantNow_46 h hz
  · replace h := ite_t c1 h
    refine lv_aload_n hx hb dX6_constantNow_4 rfl (lv_at hl 0 rfl) ?_
    refine va_get (v := .ref (a 10)) hx hb hts inX6_constantNow_X6 hown hKK.1 hz.1 0 rfl rfl 19 (by decide) (hts _ (List.mem_of_getElem? (i := 1) rfl)) (fun _ h9 => h9) rfl dX6_constantNow_5 ?_
    refine lv_iload_n hx hb dX6_constantNow_8 rfl (lv_at hl 1 rfl) ?_
    obtain ⟨c9, h⟩ := ck_e h
    refine va_iald (f := (σ 10)) hx hb hKK.1 hz.1 10 0 rfl rfl c9 dX6_constantNow_9 ?_
    refine lv_goto (tgt := 46) hx hb dX6_constantNow_10 (by decide) ?_
    exact rt ((σ 10) (Int32.toNatClampNeg x1)) σ 46 _ _ _ dX6_constantNow_46 h hz
def fX6_constant (σ : St) (x1 : Int32) (x2 : Int32) : Option (Int32) :=
  (bd1 (fX6_within σ x1 (0 : Int32) ((σ 49 0) - (1 : Int32))) fun r1 => (if r1 = 0 then (some (-1001 : Int32)) else ((bd1 (fX6_within σ x2 (0 : Int32) (3 : Int32)) fun r5 => (if r5 = 0 then (some (-1002 : Int32)) else ((bd1 (fX6_constantNow σ x1 x2) fun r9 => some r9)))))))
abbrev rmX6_constant : Room := { frames := 3, cells := 0, slots := 0, locals := 69 }
set_option maxHeartbeats 4000000 in
set_option maxRecDepth 100000 in
theorem KX6_constant {l : Launch} {dC : Nat → ClassId} {dI : Nat → Nat → Nat} {cI cZ : ClassId} {a : Nat → Nat} {hh : Int64} {σ : St} {x1 : Int32} {x2 : Int32} {r : Int32} (hok : okA 18 a) (h : fX6_constant σ x1 x2 = some r) (sz : Nat) : Met l yX6_constant wsX6_constant rmX6_constant (Pz (dC, dI) cI cZ (wdM cI cZ a hh σ) sz [.ref (a 0), .int x1, .int x2]) (Qzi (dC, dI) 18 a (wdM cI cZ a hh σ) sz r) 0 0 (aN 18 a sz) := by
  refine Met.ofW (cc := cX6_constant) (maxL := 3) (ret := (some .int)) (by decide) rfl ?_
  intro p e s m args below meth c s₁ B hml hv
  obtain ⟨hav, hsz, hP, hKK⟩ := hv
  have hx := B.exec
  have hb := B.bytes
  have hr := B.returns
  have hts := atoms_spec (ws := wsX6_constant) B.pre
  have hown : s.vm.findClass RX6 = some m.cls := findClass_of_methodNamed B.named
  have hlocks := B.notSynchronized
  have CF : CallFix p m c cX6_constant 3 s args wsX6_constant RX6 := ⟨hx, hb, hml, hown, hts⟩
  have hz : zz (dC, dI) 18 a (wdM cI cZ a hh σ) s.heap s.heap [] := ⟨hP, va_S.rf⟩
  have hl := lv_entry [.ref (a 0), .int x1, .int x2] (n := 3) (Nat.le_of_ble_eq_true rfl)
  have hen : entryFrame m args 3 = entryFrame m ([.ref (a 0), .int x1, .int x2] : List Value).toArray 3 := by rw [hav]
  rw [hen, lg_entry_eq]
  generalize (lg_sl [.ref (a 0), .int x1, .int x2] ++ List.replicate (3 - (lg_sl [.ref (a 0), .int x1, .int x2]).length) Slot.unset).toArray = ls at hl ⊢
  have hl : lv_has ls 3 [(0, .ref (a 0)), (1, .int x1), (2, .int x2)] := hl
  have eR : (headSpec wsX6_constant rmX6_constant).room = rmX6_constant := rfl
  rw [eR]
  have rt : ∀ (v : Int32) (t : St) (pc : Nat) (H : Heap) (locs : List Loc) (ls : Array Slot), decode cX6_constant pc = .ok (.ireturn, 1) → some v = some r → zz (dC, dI) 18 a (wdM cI cZ a hh σ) s.heap H locs → W p l e rmX6_constant s m args below meth c H locs 0 0 (MQ below (Qzi (dC, dI) 18 a (wdM cI cZ a hh σ) sz r) args s 0 0 (aN 18 a sz)) (F0 m pc ls [.int v]) := by
    intro v t pc H locs ls hd h hz
    cases h
    exact ziret hsz hx hb hr hlocks hz hd
  generalize (MQ below (Qzi (dC, dI) 18 a (wdM cI cZ a hh σ) sz r) args s 0 0 (aN 18 a sz)) = Q at rt ⊢
  unfold fX6_constant at h
  refine lv_iload_n hx hb dX6_constant_0 rfl (lv_at hl 1 rfl) ?_
  refine lv_iconst (v := (0 : Int32)) hx hb dX6_constant_1 (by decide) ?_
  refine lv_aload_n hx hb dX6_constant_2 rfl (lv_at hl 0 rfl) ?_
  refine va_get (v := .int (σ 49 0)) hx hb hts inX6_constant_X6 hown hKK.1 hz.1 0 rfl rfl 18 (by decide) (hts _ (List.mem_of_getElem? (i := 1) rfl)) (fun _ h9 => h9) rfl dX6_constant_3 ?_
  refine lv_iconst (v := (1 : Int32)) hx hb dX6_constant_6 (by decide) ?_
  refine lv_isub hx hb dX6_constant_7 ?_
  obtain ⟨r1, e3, h⟩ := bd1_e h
  refine zcallSi (As := [.int x1, .int (0 : Int32), .int ((σ 49 0) - (1 : Int32))]) (rest := []) CF hKK (KX6_within (dC := dC) (dI := dI) (cI := cI) (cZ := cZ) (a := a) hok e3) (va_cwS 3 hts gX6_constant_X6_within rfl rfl rfl cdX6_within.2 ⟨Nat.le_of_ble_eq_true rfl, Nat.le_of_ble_eq_true rfl⟩) hz rfl hl.1 rfl (Nat.le_of_ble_eq_true rfl) dX6_constant_8 ⟨Nat.le_refl _, Nat.le_refl _⟩ (fun H locs hz => ?_)
  refine lv_if_ne (tgt := 18) hx hb dX6_constant_11 (by decide) (fun c4 => ?_) (fun c4 => ?_)
  · replace h := ite_f c4 h
    refine lv_iload_n hx hb dX6_constant_18 rfl (lv_at hl 2 rfl) ?_
    refine lv_iconst (v := (0 : Int32)) hx hb dX6_constant_19 (by decide) ?_
    refine lv_iconst (v := (3 : Int32)) hx hb dX6_constant_20 (by decide) ?_
    obtain ⟨r5, e7, h⟩ := bd1_e h
    refine zcallSi (As := [.int x2, .int (0 : Int32), .int (3 : Int32)]) (rest := []) CF hKK (KX6_within (dC := dC) (dI := dI) (cI := cI) (cZ := cZ) (a := a) hok e7) (va_cwS 3 hts gX6_constant_X6_within rfl rfl rfl cdX6_within.2 ⟨Nat.le_of_ble_eq_true rfl, Nat.le_of_ble_eq_true rfl⟩) hz rfl hl.1 rfl (Nat.le_of_ble_eq_true rfl) dX6_constant_21 ⟨Nat.le_refl _, Nat.le_refl _⟩ (fun H locs hz => ?_)
    refine lv_if_eq (tgt := 36) hx hb dX6_constant_24 (by decide) (fun c8 => ?_) (fun c8 => ?_)
    · replace h := ite_t c8 h
      refine lv_sipush (v := (-1002 : Int32)) hx hb dX6_constant_36 (by decide) ?_
      exact rt (-1002 : Int32) σ 39 _ _ _ dX6_constant_39 h hz
    · replace h := ite_f c8 h
      refine lv_aload_n hx hb dX6_constant_27 rfl (lv_at hl 0 rfl) ?_
      refine lv_iload_n hx hb dX6_constant_28 rfl (lv_at hl 1 rfl) ?_
      refine lv_iload_n hx hb dX6_constant_29 rfl (lv_at hl 2 rfl) ?_
      obtain ⟨r9, e11, h⟩ := bd1_e h
      refine zcallVi (As := [.int x1, .int x2]) (rest := []) CF hKK (KX6_constantNow (dC := dC) (dI := dI) (cI := cI) (cZ := cZ) (a := a) hok e11) (cwV 2 hts gX6_constant_X6_constantNow rfl rfl rfl cdX6_constantNow ⟨Nat.le_of_ble_eq_true rfl, Nat.le_of_ble_eq_true rfl⟩) 0 6 rfl rfl hz rfl hl.1 rfl (Nat.le_of_ble_eq_true rfl) dX6_constant_30 ⟨Nat.le_refl _, Nat.le_refl _⟩ (fun H locs hz => ?_)
      refine lv_goto (tgt := 39) hx hb dX6_constant_33 (by decide) ?_
      exact rt r9 σ 39 _ _ _ dX6_constant_39 h hz
  · replace h := ite_t c4 h
    refine lv_sipush (v := (-1001 : Int32)) hx hb dX6_constant_14 (by decide) ?_
    exact rt (-1001 : Int32) σ 17 _ _ _ dX6_constant_17 h hz
