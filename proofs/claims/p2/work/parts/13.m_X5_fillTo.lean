def fX5_fillTo (σ : St) (x1 : Int32) (x2 : Int32) : Option (Int32) :=
  some ((-x2) &&& (x1 - (1 : Int32)))
abbrev rmX5_fillTo : Room := { frames := 0, cells := 0, slots := 0, locals := 0 }
set_option maxHeartbeats 4000000 in
set_option maxRecDepth 100000 in
theorem KX5_fillTo {l : Launch} {dC : Nat → ClassId} {dI : Nat → Nat → Nat} {cI cZ : ClassId} {a : Nat → Nat} {σ : St} {x1 : Int32} {x2 : Int32} {r : Int32} (hok : okA 30 a) (h : fX5_fillTo σ x1 x2 = some r) (sz : Nat) : Met l yX5_fillTo wsX5_fillTo rmX5_fillTo (Pz (dC, dI) cI cZ (wdC cI cZ a σ) sz [.int x1, .int x2]) (Qzi (dC, dI) 30 a (wdC cI cZ a σ) sz r) 0 0 (aN 30 a sz) := by
  refine Met.ofW (cc := cX5_fillTo) (maxL := 2) (ret := (some .int)) (by decide) rfl ?_
  intro p e s m args below meth c s₁ B hml hv
  obtain ⟨hav, hsz, hP, hKK⟩ := hv
  have hx := B.exec
  have hb := B.bytes
  have hr := B.returns
  have hts := atoms_spec (ws := wsX5_fillTo) B.pre
  have hown : s.vm.findClass RX5 = some m.cls := findClass_of_methodNamed B.named
  have hlocks := B.notSynchronized
  have CF : CallFix p m c cX5_fillTo 2 s args wsX5_fillTo RX5 := ⟨hx, hb, hml, hown, hts⟩
  have hz : zz (dC, dI) 30 a (wdC cI cZ a σ) s.heap s.heap [] := ⟨hP, va_S.rf⟩
  have hl := lv_entry [.int x1, .int x2] (n := 2) (Nat.le_of_ble_eq_true rfl)
  have hen : entryFrame m args 2 = entryFrame m ([.int x1, .int x2] : List Value).toArray 2 := by rw [hav]
  rw [hen, lg_entry_eq]
  generalize (lg_sl [.int x1, .int x2] ++ List.replicate (2 - (lg_sl [.int x1, .int x2]).length) Slot.unset).toArray = ls at hl ⊢
  have hl : lv_has ls 2 [(0, .int x1), (1, .int x2)] := hl
  have eR : (headSpec wsX5_fillTo rmX5_fillTo).room = rmX5_fillTo := rfl
  rw [eR]
  have rt : ∀ (v : Int32) (t : St) (pc : Nat) (H : Heap) (locs : List Loc) (ls : Array Slot), decode cX5_fillTo pc = .ok (.ireturn, 1) → some v = some r → zz (dC, dI) 30 a (wdC cI cZ a σ) s.heap H locs → W p l e rmX5_fillTo s m args below meth c H locs 0 0 (MQ below (Qzi (dC, dI) 30 a (wdC cI cZ a σ) sz r) args s 0 0 (aN 30 a sz)) (F0 m pc ls [.int v]) := by
    intro v t pc H locs ls hd h hz
    cases h
    exact ziret hsz hx hb hr hlocks hz hd
  generalize (MQ below (Qzi (dC, dI) 30 a (wdC cI cZ a σ) sz r) args s 0 0 (aN 30 a sz)) = Q at rt ⊢
  unfold fX5_fillTo at h
  refine lv_iload_n hx hb dX5_fillTo_0 rfl (lv_at hl 1 rfl) ?_
  refine lv_ineg hx hb dX5_fillTo_1 ?_
  refine lv_iload_n hx hb dX5_fillTo_2 rfl (lv_at hl 0 rfl) ?_
  refine lv_iconst (v := (1 : Int32)) hx hb dX5_fillTo_3 (by decide) ?_
  refine lv_isub hx hb dX5_fillTo_4 ?_
  refine lv_iand hx hb dX5_fillTo_5 ?_
  exact rt ((-x2) &&& (x1 - (1 : Int32))) σ 6 _ _ _ dX5_fillTo_6 h hz
def fX2_sizeAt (σ : St) (x1 : Int32) (x2 : Int32) : Option (Int32) :=
  (bd1 (fX0_kindOf_p σ x1) fun r1 => (if r1 = (0 : Int32) then ((bd1 (fX0_toldOf_p σ x1) fun r5 => some r5)) else (if r1 = (1 : Int32) then (some (2 : Int32)) else (if r1 = (2 : Int32) then ((bd1 (fX2_isLong σ x1) fun r10 => (if r10 = 0 then (some (2 : Int32)) else (some (4 : Int32))))) else (if r1 = (4 : Int32) then ((bd1 (fX0_toldOf_p σ x1) fun r15 => (bd1 (fX5_fillTo σ r15 x2) fun r18 => some r18))) else (if r1 = (5 : Int32) then (some (2 : Int32)) else some (0 : Int32)))))))
abbrev rmX2_sizeAt : Room := { frames := 2, cells := 0, slots := 0, locals := 42 }
set_option maxHeartbeats 4000000 in
set_option maxRecDepth 100000 in
theorem KX2_sizeAt {l : Launch} {dC : Nat → ClassId} {dI : Nat → Nat → Nat} {cI cZ : ClassId} {a : Nat → Nat} {σ : St} {x1 : Int32} {x2 : Int32} {r : Int32} (hok : okA 30 a) (h : fX2_sizeAt σ x1 x2 = some r) (sz : Nat) : Met l yX2_sizeAt wsX2_sizeAt rmX2_sizeAt (Pz (dC, dI) cI cZ (wdC cI cZ a σ) sz [.ref (a 11), .int x1, .int x2]) (Qzi (dC, dI) 30 a (wdC cI cZ a σ) sz r) 0 0 (aN 30 a sz) := by
  refine Met.ofW (cc := cX2_sizeAt) (maxL := 3) (ret := (some .int)) (by decide) rfl ?_
  intro p e s m args below meth c s₁ B hml hv
  obtain ⟨hav, hsz, hP, hKK⟩ := hv
  have hx := B.exec
  have hb := B.bytes
  have hr := B.returns
  have hts := atoms_spec (ws := wsX2_sizeAt) B.pre
  have hown : s.vm.findClass RX2 = some m.cls := findClass_of_methodNamed B.named
  have hlocks := B.notSynchronized
  have CF : CallFix p m c cX2_sizeAt 3 s args wsX2_sizeAt RX2 := ⟨hx, hb, hml, hown, hts⟩
  have hz : zz (dC, dI) 30 a (wdC cI cZ a σ) s.heap s.heap [] := ⟨hP, va_S.rf⟩
  have hl := lv_entry [.ref (a 11), .int x1, .int x2] (n := 3) (Nat.le_of_ble_eq_true rfl)
  have hen : entryFrame m args 3 = entryFrame m ([.ref (a 11), .int x1, .int x2] : List Value).toArray 3 := by rw [hav]
  rw [hen, lg_entry_eq]
  generalize (lg_sl [.ref (a 11), .int x1, .int x2] ++ List.replicate (3 - (lg_sl [.ref (a 11), .int x1, .int x2]).length) Slot.unset).toArray = ls at hl ⊢
  have hl : lv_has ls 3 [(0, .ref (a 11)), (1, .int x1), (2, .int x2)] := hl
  have eR : (headSpec wsX2_sizeAt rmX2_sizeAt).room = rmX2_sizeAt := rfl
  rw [eR]
  have rt : ∀ (v : Int32) (t : St) (pc : Nat) (H : Heap) (locs : List Loc) (ls : Array Slot), decode cX2_sizeAt pc = .ok (.ireturn, 1) → some v = some r → zz (dC, dI) 30 a (wdC cI cZ a σ) s.heap H locs → W p l e rmX2_sizeAt s m args below meth c H locs 0 0 (MQ below (Qzi (dC, dI) 30 a (wdC cI cZ a σ) sz r) args s 0 0 (aN 30 a sz)) (F0 m pc ls [.int v]) := by
    intro v t pc H locs ls hd h hz
    cases h
    exact ziret hsz hx hb hr hlocks hz hd
  generalize (MQ below (Qzi (dC, dI) 30 a (wdC cI cZ a σ) sz r) args s 0 0 (aN 30 a sz)) = Q at rt ⊢
  unfold fX2_sizeAt at h
  refine lv_aload_n hx hb dX2_sizeAt_0 rfl (lv_at hl 0 rfl) ?_
  refine va_get (v := .ref (a 7)) hx hb hts inX2_sizeAt_X2 hown hKK.1 hz.1 11 rfl rfl 0 (by decide) (hts _ (List.mem_of_getElem? (i := 1) rfl)) (fun _ h9 => h9) rfl dX2_sizeAt_1 ?_
  refine lv_iload_n hx hb dX2_sizeAt_4 rfl (lv_at hl 1 rfl) ?_
  obtain ⟨r1, e3, h⟩ := bd1_e h
  refine zcallVi (As := [.int x1]) (rest := []) CF hKK (KX0_kindOf_p (dC := dC) (dI := dI) (cI := cI) (cZ := cZ) (a := a) hok e3) (cwV 1 hts gX2_sizeAt_X0_kindOf rfl rfl rfl cdX0_kindOf ⟨Nat.le_of_ble_eq_true rfl, Nat.le_of_ble_eq_true rfl⟩) 7 0 rfl rfl hz rfl hl.1 rfl (Nat.le_of_ble_eq_true rfl) dX2_sizeAt_5 ⟨Nat.le_refl _, Nat.le_refl _⟩ (fun H locs hz => ?_)
  by_cases c4 : r1 = (0 : Int32)
  · replace h := ite_t c4 h
    refine lv_tableIn (tgt := 48) (off := 40) hx hb dX2_sizeAt_8 (by rw [c4]; decide) (by rw [c4]; decide) (by rw [c4]; rfl) (by decide) ?_
    refine lv_aload_n hx hb dX2_sizeAt_48 rfl (lv_at hl 0 rfl) ?_
    refine va_get (v := .ref (a 7)) hx hb hts inX2_sizeAt_X2 hown hKK.1 hz.1 11 rfl rfl 0 (by decide) (hts _ (List.mem_of_getElem? (i := 1) rfl)) (fun _ h9 => h9) rfl dX2_sizeAt_49 ?_
    refine lv_iload_n hx hb dX2_sizeAt_52 rfl (lv_at hl 1 rfl) ?_
    obtain ⟨r5, e7, h⟩ := bd1_e h
    refine zcallVi (As := [.int x1]) (rest := []) CF hKK (KX0_toldOf_p (dC := dC) (dI := dI) (cI := cI) (cZ := cZ) (a := a) hok e7) (cwV 1 hts gX2_sizeAt_X0_toldOf rfl rfl rfl cdX0_toldOf ⟨Nat.le_of_ble_eq_true rfl, Nat.le_of_ble_eq_true rfl⟩) 7 0 rfl rfl hz rfl hl.1 rfl (Nat.le_of_ble_eq_true rfl) dX2_sizeAt_53 ⟨Nat.le_refl _, Nat.le_refl _⟩ (fun H locs hz => ?_)
    exact rt r5 σ 56 _ _ _ dX2_sizeAt_56 h hz
  replace h := ite_f c4 h
  by_cases c8 : r1 = (1 : Int32)
  · replace h := ite_t c8 h
    refine lv_tableIn (tgt := 57) (off := 49) hx hb dX2_sizeAt_8 (by rw [c8]; decide) (by rw [c8]; decide) (by rw [c8]; rfl) (by decide) ?_
    refine lv_iconst (v := (2 : Int32)) hx hb dX2_sizeAt_57 (by decide) ?_
    exact rt (2 : Int32) σ 58 _ _ _ dX2_sizeAt_58 h hz
  replace h := ite_f c8 h
  by_cases c9 : r1 = (2 : Int32)
  · replace h := ite_t c9 h
    refine lv_tableIn (tgt := 59) (off := 51) hx hb dX2_sizeAt_8 (by rw [c9]; decide) (by rw [c9]; decide) (by rw [c9]; rfl) (by decide) ?_
    refine lv_aload_n hx hb dX2_sizeAt_59 rfl (lv_at hl 0 rfl) ?_
    refine lv_iload_n hx hb dX2_sizeAt_60 rfl (lv_at hl 1 rfl) ?_
    obtain ⟨r10, e12, h⟩ := bd1_e h
    refine zcallVi (As := [.int x1]) (rest := []) CF hKK (KX2_isLong (dC := dC) (dI := dI) (cI := cI) (cZ := cZ) (a := a) hok e12) (cwV 1 hts gX2_sizeAt_X2_isLong rfl rfl rfl cdX2_isLong ⟨Nat.le_of_ble_eq_true rfl, Nat.le_of_ble_eq_true rfl⟩) 11 2 rfl rfl hz rfl hl.1 rfl (Nat.le_of_ble_eq_true rfl) dX2_sizeAt_61 ⟨Nat.le_refl _, Nat.le_refl _⟩ (fun H locs hz => ?_)
    refine lv_if_eq (tgt := 71) hx hb dX2_sizeAt_64 (by decide) (fun c13 => ?_) (fun c13 => ?_)
    · replace h := ite_t c13 h
      refine lv_iconst (v := (2 : Int32)) hx hb dX2_sizeAt_71 (by decide) ?_
      exact rt (2 : Int32) σ 72 _ _ _ dX2_sizeAt_72 h hz
    · replace h := ite_f c13 h
      refine lv_iconst (v := (4 : Int32)) hx hb dX2_sizeAt_67 (by decide) ?_
      refine lv_goto (tgt := 72) hx hb dX2_sizeAt_68 (by decide) ?_
      exact rt (4 : Int32) σ 72 _ _ _ dX2_sizeAt_72 h hz
  replace h := ite_f c9 h
  by_cases c14 : r1 = (4 : Int32)
  · replace h := ite_t c14 h
    refine lv_tableIn (tgt := 73) (off := 65) hx hb dX2_sizeAt_8 (by rw [c14]; decide) (by rw [c14]; decide) (by rw [c14]; rfl) (by decide) ?_
    refine lv_aload_n hx hb dX2_sizeAt_73 rfl (lv_at hl 0 rfl) ?_
    refine va_get (v := .ref (a 7)) hx hb hts inX2_sizeAt_X2 hown hKK.1 hz.1 11 rfl rfl 0 (by decide) (hts _ (List.mem_of_getElem? (i := 1) rfl)) (fun _ h9 => h9) rfl dX2_sizeAt_74 ?_
    refine lv_iload_n hx hb dX2_sizeAt_77 rfl (lv_at hl 1 rfl) ?_
    obtain ⟨r15, e17, h⟩ := bd1_e h
    refine zcallVi (As := [.int x1]) (rest := []) CF hKK (KX0_toldOf_p (dC := dC) (dI := dI) (cI := cI) (cZ := cZ) (a := a) hok e17) (cwV 1 hts gX2_sizeAt_X0_toldOf rfl rfl rfl cdX0_toldOf ⟨Nat.le_of_ble_eq_true rfl, Nat.le_of_ble_eq_true rfl⟩) 7 0 rfl rfl hz rfl hl.1 rfl (Nat.le_of_ble_eq_true rfl) dX2_sizeAt_78 ⟨Nat.le_refl _, Nat.le_refl _⟩ (fun H locs hz => ?_)
    refine lv_iload_n hx hb dX2_sizeAt_81 rfl (lv_at hl 2 rfl) ?_
    obtain ⟨r18, e20, h⟩ := bd1_e h
    refine zcallSNi (As := [.int r15, .int x2]) (rest := []) CF hKK (KX5_fillTo (dC := dC) (dI := dI) (cI := cI) (cZ := cZ) (a := a) hok e20) ⟨va_cnB 2 hts gX2_sizeAt_X5_fillTo_n114 rfl rfl rfl hKK.2.2.2.2.2.2.2.2.2.2.2.2.2.2.1 (hts _ (List.mem_of_getElem? (i := 25) rfl)) cdX5_fillTo.2 ⟨Nat.le_of_ble_eq_true rfl, Nat.le_of_ble_eq_true rfl⟩, hts _ (List.mem_of_getElem? (i := 24) rfl), trivial⟩ hz rfl hl.1 rfl (Nat.le_of_ble_eq_true rfl) dX2_sizeAt_82 ⟨Nat.le_refl _, Nat.le_refl _⟩ (fun H locs hz => ?_)
    exact rt r18 σ 85 _ _ _ dX2_sizeAt_85 h hz
  replace h := ite_f c14 h
  by_cases c21 : r1 = (5 : Int32)
  · replace h := ite_t c21 h
    refine lv_tableIn (tgt := 86) (off := 78) hx hb dX2_sizeAt_8 (by rw [c21]; decide) (by rw [c21]; decide) (by rw [c21]; rfl) (by decide) ?_
    refine lv_iconst (v := (2 : Int32)) hx hb dX2_sizeAt_86 (by decide) ?_
    exact rt (2 : Int32) σ 87 _ _ _ dX2_sizeAt_87 h hz
  replace h := ite_f c21 h
  by_cases c22 : r1 = (3 : Int32)
  · refine lv_tableIn (tgt := 88) (off := 80) hx hb dX2_sizeAt_8 (by rw [c22]; decide) (by rw [c22]; decide) (by rw [c22]; rfl) (by decide) ?_
    refine lv_iconst (v := (0 : Int32)) hx hb dX2_sizeAt_88 (by decide) ?_
    exact rt (0 : Int32) σ 89 _ _ _ dX2_sizeAt_89 h hz
  refine lv_tableOut (tgt := 88) hx hb dX2_sizeAt_8 (by have := lv_neT c4 (a := 0) rfl; have := lv_neT c8 (a := 1) rfl; have := lv_neT c9 (a := 2) rfl; have := lv_neT c14 (a := 4) rfl; have := lv_neT c21 (a := 5) rfl; have := lv_neT c22 (a := 3) rfl; omega) (by decide) ?_
  refine lv_iconst (v := (0 : Int32)) hx hb dX2_sizeAt_88 (by decide) ?_
  exact rt (0 : Int32) σ 89 _ _ _ dX2_sizeAt_89 h hz
def fX2_noteLabel (σ : St) (x1 : Int32) (x2 : Int32) : Option (St) :=
  (if x1 < 0 then (some σ) else ((if (8 : Int32) ≤ x1 then (some σ) else ((ck (¬ (x1 < 0 ∨ 8 ≤ Int32.toNatClampNeg x1)) <| some (sa σ 27 (Int32.toNatClampNeg x1) x2))))))
abbrev rmX2_noteLabel : Room := { frames := 0, cells := 0, slots := 0, locals := 0 }
set_option maxHeartbeats 4000000 in
set_option maxRecDepth 100000 in
theorem KX2_noteLabel {l : Launch} {dC : Nat → ClassId} {dI : Nat → Nat → Nat} {cI cZ : ClassId} {a : Nat → Nat} {σ : St} {x1 : Int32} {x2 : Int32} {σ2 : St} (hok : okA 30 a) (h : fX2_noteLabel σ x1 x2 = some σ2) (sz : Nat) : Met l yX2_noteLabel wsX2_noteLabel rmX2_noteLabel (Pz (dC, dI) cI cZ (wdC cI cZ a σ) sz [.ref (a 11), .int x1, .int x2]) (Qzv (dC, dI) 30 a (wdC cI cZ a σ2) sz) 0 0 (aN 30 a sz) := by
  refine Met.ofW (cc := cX2_noteLabel) (maxL := 3) (ret := none) (by decide) rfl ?_
  intro p e s m args below meth c s₁ B hml hv
  obtain ⟨hav, hsz, hP, hKK⟩ := hv
  have hx := B.exec
  have hb := B.bytes
  have hr := B.returns
  have hts := atoms_spec (ws := wsX2_noteLabel) B.pre
  have hown : s.vm.findClass RX2 = some m.cls := findClass_of_methodNamed B.named
  have hlocks := B.notSynchronized
  have CF : CallFix p m c cX2_noteLabel 3 s args wsX2_noteLabel RX2 := ⟨hx, hb, hml, hown, hts⟩
  have hz : zz (dC, dI) 30 a (wdC cI cZ a σ) s.heap s.heap [] := ⟨hP, va_S.rf⟩
  have hl := lv_entry [.ref (a 11), .int x1, .int x2] (n := 3) (Nat.le_of_ble_eq_true rfl)
  have hen : entryFrame m args 3 = entryFrame m ([.ref (a 11), .int x1, .int x2] : List Value).toArray 3 := by rw [hav]
  rw [hen, lg_entry_eq]
  generalize (lg_sl [.ref (a 11), .int x1, .int x2] ++ List.replicate (3 - (lg_sl [.ref (a 11), .int x1, .int x2]).length) Slot.unset).toArray = ls at hl ⊢
  have hl : lv_has ls 3 [(0, .ref (a 11)), (1, .int x1), (2, .int x2)] := hl
  have eR : (headSpec wsX2_noteLabel rmX2_noteLabel).room = rmX2_noteLabel := rfl
  rw [eR]
  have rt : ∀ (t : St) (pc : Nat) (H : Heap) (locs : List Loc) (ls : Array Slot), decode cX2_noteLabel pc = .ok (.return_, 1) → some t = some σ2 → zz (dC, dI) 30 a (wdC cI cZ a t) s.heap H locs → W p l e rmX2_noteLabel s m args below meth c H locs 0 0 (MQ below (Qzv (dC, dI) 30 a (wdC cI cZ a σ2) sz) args s 0 0 (aN 30 a sz)) (F0 m pc ls []) := by
    intro t pc H locs ls hd h hz
    cases h
    exact zvret hsz hx hb hr hlocks hz hd
  generalize (MQ below (Qzv (dC, dI) 30 a (wdC cI cZ a σ2) sz) args s 0 0 (aN 30 a sz)) = Q at rt ⊢
  unfold fX2_noteLabel at h
  refine lv_iload_n hx hb dX2_noteLabel_0 rfl (lv_at hl 1 rfl) ?_
  refine lv_if_lt (tgt := 20) hx hb dX2_noteLabel_1 (by decide) (fun c1 => ?_) (fun c1 => ?_)
  · replace h := ite_t c1 h
    exact rt σ 20 _ _ _ dX2_noteLabel_20 h hz
  · replace h := ite_f c1 h
    refine lv_iload_n hx hb dX2_noteLabel_4 rfl (lv_at hl 1 rfl) ?_
    refine lv_aload_n hx hb dX2_noteLabel_5 rfl (lv_at hl 0 rfl) ?_
    refine va_get (v := .ref (a 27)) hx hb hts inX2_noteLabel_X2 hown hKK.1 hz.1 11 rfl rfl 7 (by decide) (hts _ (List.mem_of_getElem? (i := 1) rfl)) (fun _ h9 => h9) rfl dX2_noteLabel_6 ?_
    refine va_alen (v := (8 : Int32)) hx hb hKK.1 hz.1 27 0 rfl rfl rfl dX2_noteLabel_9 ?_
    refine lv_icmp_ge (tgt := 20) hx hb dX2_noteLabel_10 (by decide) (fun c2 => ?_) (fun c2 => ?_)
    · replace h := ite_t c2 h
      exact rt σ 20 _ _ _ dX2_noteLabel_20 h hz
    · replace h := ite_f c2 h
      refine lv_aload_n hx hb dX2_noteLabel_13 rfl (lv_at hl 0 rfl) ?_
      refine va_get (v := .ref (a 27)) hx hb hts inX2_noteLabel_X2 hown hKK.1 hz.1 11 rfl rfl 7 (by decide) (hts _ (List.mem_of_getElem? (i := 1) rfl)) (fun _ h9 => h9) rfl dX2_noteLabel_14 ?_
      refine lv_iload_n hx hb dX2_noteLabel_17 rfl (lv_at hl 1 rfl) ?_
      refine lv_iload_n hx hb dX2_noteLabel_18 rfl (lv_at hl 2 rfl) ?_
      obtain ⟨c3, h⟩ := ck_e h
      refine ziast (f := σ 27) (w' := wdC cI cZ a (sa σ 27 (Int32.toNatClampNeg x1) x2)) hx hb hKK hok wkC hz 27 rfl c3 setCa_27 dX2_noteLabel_19 (fun H locs hz => ?_)
      exact rt (sa σ 27 (Int32.toNatClampNeg x1) x2) 20 _ _ _ dX2_noteLabel_20 h hz
def fX4_isItem (σ : St) (x1 : Int32) : Option (Int32) :=
  (if x1 < 0 then (some (0 : Int32)) else ((if (24 : Int32) ≤ x1 then (some (0 : Int32)) else (some (1 : Int32)))))
abbrev rmX4_isItem : Room := { frames := 0, cells := 0, slots := 0, locals := 0 }
set_option maxHeartbeats 4000000 in
set_option maxRecDepth 100000 in
theorem KX4_isItem {l : Launch} {dC : Nat → ClassId} {dI : Nat → Nat → Nat} {cI cZ : ClassId} {a : Nat → Nat} {σ : St} {x1 : Int32} {r : Int32} (hok : okA 30 a) (h : fX4_isItem σ x1 = some r) (sz : Nat) : Met l yX4_isItem wsX4_isItem rmX4_isItem (Pz (dC, dI) cI cZ (wdC cI cZ a σ) sz [.int x1]) (Qzi (dC, dI) 30 a (wdC cI cZ a σ) sz r) 0 0 (aN 30 a sz) := by
  refine Met.ofW (cc := cX4_isItem) (maxL := 1) (ret := (some .boolean)) (by decide) rfl ?_
  intro p e s m args below meth c s₁ B hml hv
  obtain ⟨hav, hsz, hP, hKK⟩ := hv
  have hx := B.exec
  have hb := B.bytes
  have hr := B.returns
  have hts := atoms_spec (ws := wsX4_isItem) B.pre
  have hown : s.vm.findClass RX4 = some m.cls := findClass_of_methodNamed B.named
  have hlocks := B.notSynchronized
  have CF : CallFix p m c cX4_isItem 1 s args wsX4_isItem RX4 := ⟨hx, hb, hml, hown, hts⟩
  have hz : zz (dC, dI) 30 a (wdC cI cZ a σ) s.heap s.heap [] := ⟨hP, va_S.rf⟩
  have hl := lv_entry [.int x1] (n := 1) (Nat.le_of_ble_eq_true rfl)
  have hen : entryFrame m args 1 = entryFrame m ([.int x1] : List Value).toArray 1 := by rw [hav]
  rw [hen, lg_entry_eq]
  generalize (lg_sl [.int x1] ++ List.replicate (1 - (lg_sl [.int x1]).length) Slot.unset).toArray = ls at hl ⊢
  have hl : lv_has ls 1 [(0, .int x1)] := hl
  have eR : (headSpec wsX4_isItem rmX4_isItem).room = rmX4_isItem := rfl
  rw [eR]
  have rt : ∀ (v : Int32) (t : St) (pc : Nat) (H : Heap) (locs : List Loc) (ls : Array Slot), decode cX4_isItem pc = .ok (.ireturn, 1) → some v = some r → zz (dC, dI) 30 a (wdC cI cZ a σ) s.heap H locs → (v = 0 ∨ v = 1) → W p l e rmX4_isItem s m args below meth c H locs 0 0 (MQ below (Qzi (dC, dI) 30 a (wdC cI cZ a σ) sz r) args s 0 0 (aN 30 a sz)) (F0 m pc ls [.int v]) := by
    intro v t pc H locs ls hd h hz hv
    cases h
    exact zzret hsz hx hb hr hlocks hv hz hd
  generalize (MQ below (Qzi (dC, dI) 30 a (wdC cI cZ a σ) sz r) args s 0 0 (aN 30 a sz)) = Q at rt ⊢
  unfold fX4_isItem at h
  refine lv_iload_n hx hb dX4_isItem_0 rfl (lv_at hl 0 rfl) ?_
  refine lv_if_lt (tgt := 14) hx hb dX4_isItem_1 (by decide) (fun c1 => ?_) (fun c1 => ?_)
  · replace h := ite_t c1 h
    refine lv_iconst (v := (0 : Int32)) hx hb dX4_isItem_14 (by decide) ?_
    exact rt (0 : Int32) σ 15 _ _ _ dX4_isItem_15 h hz (Or.inl rfl)
  · replace h := ite_f c1 h
    refine lv_iload_n hx hb dX4_isItem_4 rfl (lv_at hl 0 rfl) ?_
    refine lv_bipush (v := (24 : Int32)) hx hb dX4_isItem_5 (by decide) ?_
    refine lv_icmp_ge (tgt := 14) hx hb dX4_isItem_7 (by decide) (fun c2 => ?_) (fun c2 => ?_)
    · replace h := ite_t c2 h
      refine lv_iconst (v := (0 : Int32)) hx hb dX4_isItem_14 (by decide) ?_
      exact rt (0 : Int32) σ 15 _ _ _ dX4_isItem_15 h hz (Or.inl rfl)
    · replace h := ite_f c2 h
      refine lv_iconst (v := (1 : Int32)) hx hb dX4_isItem_10 (by decide) ?_
      refine lv_goto (tgt := 15) hx hb dX4_isItem_11 (by decide) ?_
      exact rt (1 : Int32) σ 15 _ _ _ dX4_isItem_15 h hz (Or.inr rfl)
def fX4_lay_i (σ : St) (x1 : Int32) (x2 : Int32) : Option (Int32 × St) :=
  (bd1 (fX4_isItem σ x1) fun r1 => (if r1 = 0 then (some (x2, σ)) else ((ck (¬ (x1 < 0 ∨ 24 ≤ Int32.toNatClampNeg x1)) <| (ck (¬ (x1 < 0 ∨ 24 ≤ Int32.toNatClampNeg x1)) <| some ((x2 + ((4 : Int32) * ((σ 16) (Int32.toNatClampNeg x1)))), (sa σ 17 (Int32.toNatClampNeg x1) x2)))))))
abbrev rmX4_lay_i : Room := { frames := 1, cells := 0, slots := 0, locals := 20 }
set_option maxHeartbeats 4000000 in
set_option maxRecDepth 100000 in
theorem KX4_lay_i {l : Launch} {dC : Nat → ClassId} {dI : Nat → Nat → Nat} {cI cZ : ClassId} {a : Nat → Nat} {σ : St} {x1 : Int32} {x2 : Int32} {r : Int32} {σ2 : St} (hok : okA 30 a) (h : fX4_lay_i σ x1 x2 = some (r, σ2)) (sz : Nat) : Met l yX4_lay wsX4_lay rmX4_lay_i (Pz (dC, dI) cI cZ (wdC cI cZ a σ) sz [.ref (a 12), .int x1, .int x2]) (Qzi (dC, dI) 30 a (wdC cI cZ a σ2) sz r) 0 0 (aN 30 a sz) := by
  refine Met.ofW (cc := cX4_lay) (maxL := 3) (ret := (some .int)) (by decide) rfl ?_
  intro p e s m args below meth c s₁ B hml hv
  obtain ⟨hav, hsz, hP, hKK⟩ := hv
  have hx := B.exec
  have hb := B.bytes
  have hr := B.returns
  have hts := atoms_spec (ws := wsX4_lay) B.pre
  have hown : s.vm.findClass RX4 = some m.cls := findClass_of_methodNamed B.named
  have hlocks := B.notSynchronized
  have CF : CallFix p m c cX4_lay 3 s args wsX4_lay RX4 := ⟨hx, hb, hml, hown, hts⟩
  have hz : zz (dC, dI) 30 a (wdC cI cZ a σ) s.heap s.heap [] := ⟨hP, va_S.rf⟩
  have hl := lv_entry [.ref (a 12), .int x1, .int x2] (n := 3) (Nat.le_of_ble_eq_true rfl)
  have hen : entryFrame m args 3 = entryFrame m ([.ref (a 12), .int x1, .int x2] : List Value).toArray 3 := by rw [hav]
  rw [hen, lg_entry_eq]
  generalize (lg_sl [.ref (a 12), .int x1, .int x2] ++ List.replicate (3 - (lg_sl [.ref (a 12), .int x1, .int x2]).length) Slot.unset).toArray = ls at hl ⊢
  have hl : lv_has ls 3 [(0, .ref (a 12)), (1, .int x1), (2, .int x2)] := hl
  have eR : (headSpec wsX4_lay rmX4_lay_i).room = rmX4_lay_i := rfl
  rw [eR]
  have rt : ∀ (v : Int32) (t : St) (pc : Nat) (H : Heap) (locs : List Loc) (ls : Array Slot), decode cX4_lay pc = .ok (.ireturn, 1) → some (v, t) = some (r, σ2) → zz (dC, dI) 30 a (wdC cI cZ a t) s.heap H locs → W p l e rmX4_lay_i s m args below meth c H locs 0 0 (MQ below (Qzi (dC, dI) 30 a (wdC cI cZ a σ2) sz r) args s 0 0 (aN 30 a sz)) (F0 m pc ls [.int v]) := by
    intro v t pc H locs ls hd h hz
    cases h
    exact ziret hsz hx hb hr hlocks hz hd
  generalize (MQ below (Qzi (dC, dI) 30 a (wdC cI cZ a σ2) sz r) args s 0 0 (aN 30 a sz)) = Q at rt ⊢
  unfold fX4_lay_i at h
  refine lv_iload_n hx hb dX4_lay_0 rfl (lv_at hl 1 rfl) ?_
  obtain ⟨r1, e3, h⟩ := bd1_e h
  refine zcallSi (As := [.int x1]) (rest := []) CF hKK (KX4_isItem (dC := dC) (dI := dI) (cI := cI) (cZ := cZ) (a := a) hok e3) (va_cwS 1 hts gX4_lay_X4_isItem rfl rfl rfl cdX4_isItem.2 ⟨Nat.le_of_ble_eq_true rfl, Nat.le_of_ble_eq_true rfl⟩) hz rfl hl.1 rfl (Nat.le_of_ble_eq_true rfl) dX4_lay_1 ⟨Nat.le_refl _, Nat.le_refl _⟩ (fun H locs hz => ?_)
  refine lv_if_ne (tgt := 9) hx hb dX4_lay_4 (by decide) (fun c4 => ?_) (fun c4 => ?_)
  · replace h := ite_f c4 h
    refine lv_aload_n hx hb dX4_lay_9 rfl (lv_at hl 0 rfl) ?_
    refine va_get (v := .ref (a 17)) hx hb hts inX4_lay_X4 hown hKK.1 hz.1 12 rfl rfl 4 (by decide) (hts _ (List.mem_of_getElem? (i := 1) rfl)) (fun _ h9 => h9) rfl dX4_lay_10 ?_
    refine lv_iload_n hx hb dX4_lay_13 rfl (lv_at hl 1 rfl) ?_
    refine lv_iload_n hx hb dX4_lay_14 rfl (lv_at hl 2 rfl) ?_
    obtain ⟨c5, h⟩ := ck_e h
    refine ziast (f := σ 17) (w' := wdC cI cZ a (sa σ 17 (Int32.toNatClampNeg x1) x2)) hx hb hKK hok wkC hz 17 rfl c5 setCa_17 dX4_lay_15 (fun H locs hz => ?_)
    refine lv_iload_n hx hb dX4_lay_16 rfl (lv_at hl 2 rfl) ?_
    refine lv_iconst (v := (4 : Int32)) hx hb dX4_lay_17 (by decide) ?_
    refine lv_aload_n hx hb dX4_lay_18 rfl (lv_at hl 0 rfl) ?_
    refine va_get (v := .ref (a 16)) hx hb hts inX4_lay_X4 hown hKK.1 hz.1 12 rfl rfl 3 (by decide) (hts _ (List.mem_of_getElem? (i := 2) rfl)) (fun _ h9 => h9) rfl dX4_lay_19 ?_
    refine lv_iload_n hx hb dX4_lay_22 rfl (lv_at hl 1 rfl) ?_
    obtain ⟨c6, h⟩ := ck_e h
    refine va_iald (f := (σ 16)) hx hb hKK.1 hz.1 16 0 rfl rfl c6 dX4_lay_23 ?_
    refine lv_imul hx hb dX4_lay_24 ?_
    refine lv_iadd hx hb dX4_lay_25 ?_
    exact rt (x2 + ((4 : Int32) * ((σ 16) (Int32.toNatClampNeg x1)))) (sa σ 17 (Int32.toNatClampNeg x1) x2) 26 _ _ _ dX4_lay_26 h hz
  · replace h := ite_t c4 h
    refine lv_iload_n hx hb dX4_lay_7 rfl (lv_at hl 2 rfl) ?_
    exact rt x2 σ 8 _ _ _ dX4_lay_8 h hz
def fX4_lay_c (σ : St) (x1 : Int32) (x2 : Int32) : Option (Int32 × St) :=
  (bd1 (fX4_isItem σ x1) fun r1 => (if r1 = 0 then (some (x2, σ)) else ((ck (¬ (x1 < 0 ∨ 24 ≤ Int32.toNatClampNeg x1)) <| (ck (¬ (x1 < 0 ∨ 24 ≤ Int32.toNatClampNeg x1)) <| some ((x2 + ((4 : Int32) * ((σ 22) (Int32.toNatClampNeg x1)))), (sa σ 23 (Int32.toNatClampNeg x1) x2)))))))
abbrev rmX4_lay_c : Room := { frames := 1, cells := 0, slots := 0, locals := 20 }
set_option maxHeartbeats 4000000 in
set_option maxRecDepth 100000 in
theorem KX4_lay_c {l : Launch} {dC : Nat → ClassId} {dI : Nat → Nat → Nat} {cI cZ : ClassId} {a : Nat → Nat} {σ : St} {x1 : Int32} {x2 : Int32} {r : Int32} {σ2 : St} (hok : okA 30 a) (h : fX4_lay_c σ x1 x2 = some (r, σ2)) (sz : Nat) : Met l yX4_lay wsX4_lay rmX4_lay_c (Pz (dC, dI) cI cZ (wdC cI cZ a σ) sz [.ref (a 18), .int x1, .int x2]) (Qzi (dC, dI) 30 a (wdC cI cZ a σ2) sz r) 0 0 (aN 30 a sz) := by
  refine Met.ofW (cc := cX4_lay) (maxL := 3) (ret := (some .int)) (by decide) rfl ?_
  intro p e s m args below meth c s₁ B hml hv
  obtain ⟨hav, hsz, hP, hKK⟩ := hv
  have hx := B.exec
  have hb := B.bytes
  have hr := B.returns
  have hts := atoms_spec (ws := wsX4_lay) B.pre
  have hown : s.vm.findClass RX4 = some m.cls := findClass_of_methodNamed B.named
  have hlocks := B.notSynchronized
  have CF : CallFix p m c cX4_lay 3 s args wsX4_lay RX4 := ⟨hx, hb, hml, hown, hts⟩
  have hz : zz (dC, dI) 30 a (wdC cI cZ a σ) s.heap s.heap [] := ⟨hP, va_S.rf⟩
  have hl := lv_entry [.ref (a 18), .int x1, .int x2] (n := 3) (Nat.le_of_ble_eq_true rfl)
  have hen : entryFrame m args 3 = entryFrame m ([.ref (a 18), .int x1, .int x2] : List Value).toArray 3 := by rw [hav]
  rw [hen, lg_entry_eq]
  generalize (lg_sl [.ref (a 18), .int x1, .int x2] ++ List.replicate (3 - (lg_sl [.ref (a 18), .int x1, .int x2]).length) Slot.unset).toArray = ls at hl ⊢
  have hl : lv_has ls 3 [(0, .ref (a 18)), (1, .int x1), (2, .int x2)] := hl
  have eR : (headSpec wsX4_lay rmX4_lay_c).room = rmX4_lay_c := rfl
  rw [eR]
  have rt : ∀ (v : Int32) (t : St) (pc : Nat) (H : Heap) (locs : List Loc) (ls : Array Slot), decode cX4_lay pc = .ok (.ireturn, 1) → some (v, t) = some (r, σ2) → zz (dC, dI) 30 a (wdC cI cZ a t) s.heap H locs → W p l e rmX4_lay_c s m args below meth c H locs 0 0 (MQ below (Qzi (dC, dI) 30 a (wdC cI cZ a σ2) sz r) args s 0 0 (aN 30 a sz)) (F0 m pc ls [.int v]) := by
    intro v t pc H locs ls hd h hz
    cases h
    exact ziret hsz hx hb hr hlocks hz hd
  generalize (MQ below (Qzi (dC, dI) 30 a (wdC cI cZ a σ2) sz r) args s 0 0 (aN 30 a sz)) = Q at rt ⊢
  unfold fX4_lay_c at h
  refine lv_iload_n hx hb dX4_lay_0 rfl (lv_at hl 1 rfl) ?_
  obtain ⟨r1, e3, h⟩ := bd1_e h
  refine zcallSi (As := [.int x1]) (rest := []) CF hKK (KX4_isItem (dC := dC) (dI := dI) (cI := cI) (cZ := cZ) (a := a) hok e3) (va_cwS 1 hts gX4_lay_X4_isItem rfl rfl rfl cdX4_isItem.2 ⟨Nat.le_of_ble_eq_true rfl, Nat.le_of_ble_eq_true rfl⟩) hz rfl hl.1 rfl (Nat.le_of_ble_eq_true rfl) dX4_lay_1 ⟨Nat.le_refl _, Nat.le_refl _⟩ (fun H locs hz => ?_)
  refine lv_if_ne (tgt := 9) hx hb dX4_lay_4 (by decide) (fun c4 => ?_) (fun c4 => ?_)
  · replace h := ite_f c4 h
    refine lv_aload_n hx hb dX4_lay_9 rfl (lv_at hl 0 rfl) ?_
    refine va_get (v := .ref (a 23)) hx hb hts inX4_lay_X4 hown hKK.1 hz.1 18 rfl rfl 4 (by decide) (hts _ (List.mem_of_getElem? (i := 1) rfl)) (fun _ h9 => h9) rfl dX4_lay_10 ?_
    refine lv_iload_n hx hb dX4_lay_13 rfl (lv_at hl 1 rfl) ?_
    refine lv_iload_n hx hb dX4_lay_14 rfl (lv_at hl 2 rfl) ?_
    obtain ⟨c5, h⟩ := ck_e h
    refine ziast (f := σ 23) (w' := wdC cI cZ a (sa σ 23 (Int32.toNatClampNeg x1) x2)) hx hb hKK hok wkC hz 23 rfl c5 setCa_23 dX4_lay_15 (fun H locs hz => ?_)
    refine lv_iload_n hx hb dX4_lay_16 rfl (lv_at hl 2 rfl) ?_
    refine lv_iconst (v := (4 : Int32)) hx hb dX4_lay_17 (by decide) ?_
    refine lv_aload_n hx hb dX4_lay_18 rfl (lv_at hl 0 rfl) ?_
    refine va_get (v := .ref (a 22)) hx hb hts inX4_lay_X4 hown hKK.1 hz.1 18 rfl rfl 3 (by decide) (hts _ (List.mem_of_getElem? (i := 2) rfl)) (fun _ h9 => h9) rfl dX4_lay_19 ?_
    refine lv_iload_n hx hb dX4_lay_22 rfl (lv_at hl 1 rfl) ?_
    obtain ⟨c6, h⟩ := ck_e h
    refine va_iald (f := (σ 22)) hx hb hKK.1 hz.1 22 0 rfl rfl c6 dX4_lay_23 ?_
    refine lv_imul hx hb dX4_lay_24 ?_
    refine lv_iadd hx hb dX4_lay_25 ?_
    exact rt (x2 + ((4 : Int32) * ((σ 22) (Int32.toNatClampNeg x1)))) (sa σ 23 (Int32.toNatClampNeg x1) x2) 26 _ _ _ dX4_lay_26 h hz
  · replace h := ite_t c4 h
    refine lv_iload_n hx hb dX4_lay_7 rfl (lv_at hl 2 rfl) ?_
    exact rt x2 σ 8 _ _ _ dX4_lay_8 h hz
def fX4_isIn_i (σ : St) (x1 : Int32) : Option (Int32) :=
  (bd1 (fX4_isItem σ x1) fun r1 => (if r1 = 0 then (some (0 : Int32)) else ((ck (¬ (x1 < 0 ∨ 24 ≤ Int32.toNatClampNeg x1)) <| (if ((σ 16) (Int32.toNatClampNeg x1)) ≤ 0 then (some (0 : Int32)) else (some (1 : Int32)))))))
abbrev rmX4_isIn_i : Room := { frames := 1, cells := 0, slots := 0, locals := 20 }
set_option maxHeartbeats 4000000 in
set_option maxRecDepth 100000 in
theorem KX4_isIn_i {l : Launch} {dC : Nat → ClassId} {dI : Nat → Nat → Nat} {cI cZ : ClassId} {a : Nat → Nat} {σ : St} {x1 : Int32} {r : Int32} (hok : okA 30 a) (h : fX4_isIn_i σ x1 = some r) (sz : Nat) : Met l yX4_isIn wsX4_isIn rmX4_isIn_i (Pz (dC, dI) cI cZ (wdC cI cZ a σ) sz [.ref (a 12), .int x1]) (Qzi (dC, dI) 30 a (wdC cI cZ a σ) sz r) 0 0 (aN 30 a sz) := by
  refine Met.ofW (cc := cX4_isIn) (maxL := 2) (ret := (some .boolean)) (by decide) rfl ?_
  intro p e s m args below meth c s₁ B hml hv
  obtain ⟨hav, hsz, hP, hKK⟩ := hv
  have hx := B.exec
  have hb := B.bytes
  have hr := B.returns
  have hts := atoms_spec (ws := wsX4_isIn) B.pre
  have hown : s.vm.findClass RX4 = some m.cls := findClass_of_methodNamed B.named
  have hlocks := B.notSynchronized
  have CF : CallFix p m c cX4_isIn 2 s args wsX4_isIn RX4 := ⟨hx, hb, hml, hown, hts⟩
  have hz : zz (dC, dI) 30 a (wdC cI cZ a σ) s.heap s.heap [] := ⟨hP, va_S.rf⟩
  have hl := lv_entry [.ref (a 12), .int x1] (n := 2) (Nat.le_of_ble_eq_true rfl)
  have hen : entryFrame m args 2 = entryFrame m ([.ref (a 12), .int x1] : List Value).toArray 2 := by rw [hav]
  rw [hen, lg_entry_eq]
  generalize (lg_sl [.ref (a 12), .int x1] ++ List.replicate (2 - (lg_sl [.ref (a 12), .int x1]).length) Slot.unset).toArray = ls at hl ⊢
  have hl : lv_has ls 2 [(0, .ref (a 12)), (1, .int x1)] := hl
  have eR : (headSpec wsX4_isIn rmX4_isIn_i).room = rmX4_isIn_i := rfl
  rw [eR]
  have rt : ∀ (v : Int32) (t : St) (pc : Nat) (H : Heap) (locs : List Loc) (ls : Array Slot), decode cX4_isIn pc = .ok (.ireturn, 1) → some v = some r → zz (dC, dI) 30 a (wdC cI cZ a σ) s.heap H locs → (v = 0 ∨ v = 1) → W p l e rmX4_isIn_i s m args below meth c H locs 0 0 (MQ below (Qzi (dC, dI) 30 a (wdC cI cZ a σ) sz r) args s 0 0 (aN 30 a sz)) (F0 m pc ls [.int v]) := by
    intro v t pc H locs ls hd h hz hv
    cases h
    exact zzret hsz hx hb hr hlocks hv hz hd
  generalize (MQ below (Qzi (dC, dI) 30 a (wdC cI cZ a σ) sz r) args s 0 0 (aN 30 a sz)) = Q at rt ⊢
  unfold fX4_isIn_i at h
  refine lv_iload_n hx hb dX4_isIn_0 rfl (lv_at hl 1 rfl) ?_
  obtain ⟨r1, e3, h⟩ := bd1_e h
  refine zcallSi (As := [.int x1]) (rest := []) CF hKK (KX4_isItem (dC := dC) (dI := dI) (cI := cI) (cZ := cZ) (a := a) hok e3) (va_cwS 1 hts gX4_isIn_X4_isItem rfl rfl rfl cdX4_isItem.2 ⟨Nat.le_of_ble_eq_true rfl, Nat.le_of_ble_eq_true rfl⟩) hz rfl hl.1 rfl (Nat.le_of_ble_eq_true rfl) dX4_isIn_1 ⟨Nat.le_refl _, Nat.le_refl _⟩ (fun H locs hz => ?_)
  refine lv_if_eq (tgt := 20) hx hb dX4_isIn_4 (by decide) (fun c4 => ?_) (fun c4 => ?_)
  · replace h := ite_t c4 h
    refine lv_iconst (v := (0 : Int32)) hx hb dX4_isIn_20 (by decide) ?_
    exact rt (0 : Int32) σ 21 _ _ _ dX4_isIn_21 h hz (Or.inl rfl)
  · replace h := ite_f c4 h
    refine lv_aload_n hx hb dX4_isIn_7 rfl (lv_at hl 0 rfl) ?_
    refine va_get (v := .ref (a 16)) hx hb hts inX4_isIn_X4 hown hKK.1 hz.1 12 rfl rfl 3 (by decide) (hts _ (List.mem_of_getElem? (i := 1) rfl)) (fun _ h9 => h9) rfl dX4_isIn_8 ?_
    refine lv_iload_n hx hb dX4_isIn_11 rfl (lv_at hl 1 rfl) ?_
    obtain ⟨c5, h⟩ := ck_e h
    refine va_iald (f := (σ 16)) hx hb hKK.1 hz.1 16 0 rfl rfl c5 dX4_isIn_12 ?_
    refine lv_if_le (tgt := 20) hx hb dX4_isIn_13 (by decide) (fun c6 => ?_) (fun c6 => ?_)
    · replace h := ite_t c6 h
      refine lv_iconst (v := (0 : Int32)) hx hb dX4_isIn_20 (by decide) ?_
      exact rt (0 : Int32) σ 21 _ _ _ dX4_isIn_21 h hz (Or.inl rfl)
    · replace h := ite_f c6 h
      refine lv_iconst (v := (1 : Int32)) hx hb dX4_isIn_16 (by decide) ?_
      refine lv_goto (tgt := 21) hx hb dX4_isIn_17 (by decide) ?_
      exact rt (1 : Int32) σ 21 _ _ _ dX4_isIn_21 h hz (Or.inr rfl)
def fX4_isIn_c (σ : St) (x1 : Int32) : Option (Int32) :=
  (bd1 (fX4_isItem σ x1) fun r1 => (if r1 = 0 then (some (0 : Int32)) else ((ck (¬ (x1 < 0 ∨ 24 ≤ Int32.toNatClampNeg x1)) <| (if ((σ 22) (Int32.toNatClampNeg x1)) ≤ 0 then (some (0 : Int32)) else (some (1 : Int32)))))))
abbrev rmX4_isIn_c : Room := { frames := 1, cells := 0, slots := 0, locals := 20 }
set_option maxHeartbeats 4000000 in
set_option maxRecDepth 100000 in
theorem KX4_isIn_c {l : Launch} {dC : Nat → ClassId} {dI : Nat → Nat → Nat} {cI cZ : ClassId} {a : Nat → Nat} {σ : St} {x1 : Int32} {r : Int32} (hok : okA 30 a) (h : fX4_isIn_c σ x1 = some r) (sz : Nat) : Met l yX4_isIn wsX4_isIn rmX4_isIn_c (Pz (dC, dI) cI cZ (wdC cI cZ a σ) sz [.ref (a 18), .int x1]) (Qzi (dC, dI) 30 a (wdC cI cZ a σ) sz r) 0 0 (aN 30 a sz) := by
  refine Met.ofW (cc := cX4_isIn) (maxL := 2) (ret := (some .boolean)) (by decide) rfl ?_
  intro p e s m args below meth c s₁ B hml hv
  obtain ⟨hav, hsz, hP, hKK⟩ := hv
  have hx := B.exec
  have hb := B.bytes
  have hr := B.returns
  have hts := atoms_spec (ws := wsX4_isIn) B.pre
  have hown : s.vm.findClass RX4 = some m.cls := findClass_of_methodNamed B.named
  have hlocks := B.notSynchronized
  have CF : CallFix p m c cX4_isIn 2 s args wsX4_isIn RX4 := ⟨hx, hb, hml, hown, hts⟩
  have hz : zz (dC, dI) 30 a (wdC cI cZ a σ) s.heap s.heap [] := ⟨hP, va_S.rf⟩
  have hl := lv_entry [.ref (a 18), .int x1] (n := 2) (Nat.le_of_ble_eq_true rfl)
  have hen : entryFrame m args 2 = entryFrame m ([.ref (a 18), .int x1] : List Value).toArray 2 := by rw [hav]
  rw [hen, lg_entry_eq]
  generalize (lg_sl [.ref (a 18), .int x1] ++ List.replicate (2 - (lg_sl [.ref (a 18), .int x1]).length) Slot.unset).toArray = ls at hl ⊢
  have hl : lv_has ls 2 [(0, .ref (a 18)), (1, .int x1)] := hl
  have eR : (headSpec wsX4_isIn rmX4_isIn_c).room = rmX4_isIn_c := rfl
  rw [eR]
  have rt : ∀ (v : Int32) (t : St) (pc : Nat) (H : Heap) (locs : List Loc) (ls : Array Slot), decode cX4_isIn pc = .ok (.ireturn, 1) → some v = some r → zz (dC, dI) 30 a (wdC cI cZ a σ) s.heap H locs → (v = 0 ∨ v = 1) → W p l e rmX4_isIn_c s m args below meth c H locs 0 0 (MQ below (Qzi (dC, dI) 30 a (wdC cI cZ a σ) sz r) args s 0 0 (aN 30 a sz)) (F0 m pc ls [.int v]) := by
    intro v t pc H locs ls hd h hz hv
    cases h
    exact zzret hsz hx hb hr hlocks hv hz hd
  generalize (MQ below (Qzi (dC, dI) 30 a (wdC cI cZ a σ) sz r) args s 0 0 (aN 30 a sz)) = Q at rt ⊢
  unfold fX4_isIn_c at h
  refine lv_iload_n hx hb dX4_isIn_0 rfl (lv_at hl 1 rfl) ?_
  obtain ⟨r1, e3, h⟩ := bd1_e h
  refine zcallSi (As := [.int x1]) (rest := []) CF hKK (KX4_isItem (dC := dC) (dI := dI) (cI := cI) (cZ := cZ) (a := a) hok e3) (va_cwS 1 hts gX4_isIn_X4_isItem rfl rfl rfl cdX4_isItem.2 ⟨Nat.le_of_ble_eq_true rfl, Nat.le_of_ble_eq_true rfl⟩) hz rfl hl.1 rfl (Nat.le_of_ble_eq_true rfl) dX4_isIn_1 ⟨Nat.le_refl _, Nat.le_refl _⟩ (fun H locs hz => ?_)
  refine lv_if_eq (tgt := 20) hx hb dX4_isIn_4 (by decide) (fun c4 => ?_) (fun c4 => ?_)
  · replace h := ite_t c4 h
    refine lv_iconst (v := (0 : Int32)) hx hb dX4_isIn_20 (by decide) ?_
    exact rt (0 : Int32) σ 21 _ _ _ dX4_isIn_21 h hz (Or.inl rfl)
  · replace h := ite_f c4 h
    refine lv_aload_n hx hb dX4_isIn_7 rfl (lv_at hl 0 rfl) ?_
    refine va_get (v := .ref (a 22)) hx hb hts inX4_isIn_X4 hown hKK.1 hz.1 18 rfl rfl 3 (by decide) (hts _ (List.mem_of_getElem? (i := 1) rfl)) (fun _ h9 => h9) rfl dX4_isIn_8 ?_
    refine lv_iload_n hx hb dX4_isIn_11 rfl (lv_at hl 1 rfl) ?_
    obtain ⟨c5, h⟩ := ck_e h
    refine va_iald (f := (σ 22)) hx hb hKK.1 hz.1 22 0 rfl rfl c5 dX4_isIn_12 ?_
    refine lv_if_le (tgt := 20) hx hb dX4_isIn_13 (by decide) (fun c6 => ?_) (fun c6 => ?_)
    · replace h := ite_t c6 h
      refine lv_iconst (v := (0 : Int32)) hx hb dX4_isIn_20 (by decide) ?_
      exact rt (0 : Int32) σ 21 _ _ _ dX4_isIn_21 h hz (Or.inl rfl)
    · replace h := ite_f c6 h
      refine lv_iconst (v := (1 : Int32)) hx hb dX4_isIn_16 (by decide) ?_
      refine lv_goto (tgt := 21) hx hb dX4_isIn_17 (by decide) ?_
      exact rt (1 : Int32) σ 21 _ _ _ dX4_isIn_21 h hz (Or.inr rfl)
def fX2_layGap_b44  (σ : St) (y1 : Int32) (y3 : Int32) : Option (Int32 × St) :=
  (bd2 (fX4_lay_c σ y1 y3) fun r8 s9 => some (r8, s9))
def fX2_layGap (σ : St) (x1 : Int32) (x2 : Int32) : Option (Int32 × St) :=
  (bd2 (fX4_lay_i σ x1 x2) fun r1 s2 => (bd1 (fX4_isIn_c s2 x1) fun r4 => (if r4 = 0 then (fX2_layGap_b44  s2 x1 r1) else ((bd1 (fX5_fillTo s2 (4 : Int32) r1) fun r11 => fX2_layGap_b44  (si s2 53 ((s2 53 0) + r11)) x1 (r1 + r11))))))
abbrev rmX2_layGap : Room := { frames := 2, cells := 0, slots := 0, locals := 42 }
set_option maxHeartbeats 4000000 in
set_option maxRecDepth 100000 in
theorem KX2_layGap {l : Launch} {dC : Nat → ClassId} {dI : Nat → Nat → Nat} {cI cZ : ClassId} {a : Nat → Nat} {σ : St} {x1 : Int32} {x2 : Int32} {r : Int32} {σ2 : St} (hok : okA 30 a) (h : fX2_layGap σ x1 x2 = some (r, σ2)) (sz : Nat) : Met l yX2_layGap wsX2_layGap rmX2_layGap (Pz (dC, dI) cI cZ (wdC cI cZ a σ) sz [.ref (a 11), .int x1, .int x2]) (Qzi (dC, dI) 30 a (wdC cI cZ a σ2) sz r) 0 0 (aN 30 a sz) := by
  refine Met.ofW (cc := cX2_layGap) (maxL := 5) (ret := (some .int)) (by decide) rfl ?_
  intro p e s m args below meth c s₁ B hml hv
  obtain ⟨hav, hsz, hP, hKK⟩ := hv
  have hx := B.exec
  have hb := B.bytes
  have hr := B.returns
  have hts := atoms_spec (ws := wsX2_layGap) B.pre
  have hown : s.vm.findClass RX2 = some m.cls := findClass_of_methodNamed B.named
  have hlocks := B.notSynchronized
  have CF : CallFix p m c cX2_layGap 5 s args wsX2_layGap RX2 := ⟨hx, hb, hml, hown, hts⟩
  have hz : zz (dC, dI) 30 a (wdC cI cZ a σ) s.heap s.heap [] := ⟨hP, va_S.rf⟩
  have hl := lv_entry [.ref (a 11), .int x1, .int x2] (n := 5) (Nat.le_of_ble_eq_true rfl)
  have hen : entryFrame m args 5 = entryFrame m ([.ref (a 11), .int x1, .int x2] : List Value).toArray 5 := by rw [hav]
  rw [hen, lg_entry_eq]
  generalize (lg_sl [.ref (a 11), .int x1, .int x2] ++ List.replicate (5 - (lg_sl [.ref (a 11), .int x1, .int x2]).length) Slot.unset).toArray = ls at hl ⊢
  have hl : lv_has ls 5 [(0, .ref (a 11)), (1, .int x1), (2, .int x2)] := hl
  have eR : (headSpec wsX2_layGap rmX2_layGap).room = rmX2_layGap := rfl
  rw [eR]
  have rt : ∀ (v : Int32) (t : St) (pc : Nat) (H : Heap) (locs : List Loc) (ls : Array Slot), decode cX2_layGap pc = .ok (.ireturn, 1) → some (v, t) = some (r, σ2) → zz (dC, dI) 30 a (wdC cI cZ a t) s.heap H locs → W p l e rmX2_layGap s m args below meth c H locs 0 0 (MQ below (Qzi (dC, dI) 30 a (wdC cI cZ a σ2) sz r) args s 0 0 (aN 30 a sz)) (F0 m pc ls [.int v]) := by
    intro v t pc H locs ls hd h hz
    cases h
    exact ziret hsz hx hb hr hlocks hz hd
  generalize (MQ below (Qzi (dC, dI) 30 a (wdC cI cZ a σ2) sz r) args s 0 0 (aN 30 a sz)) = Q at rt ⊢
  have b44 : ∀  (σ : St) (y1 : Int32) (y3 : Int32) (H : Heap) (locs : List Loc) (ls : Array Slot), fX2_layGap_b44  σ y1 y3 = some (r, σ2) → zz (dC, dI) 30 a (wdC cI cZ a σ) s.heap H locs → lv_has ls 5 [(0, .ref (a 11)), (1, .int y1), (3, .int y3)] → W p l e rmX2_layGap s m args below meth c H locs 0 0 Q (F0 m 44 ls []) := by
    intro  σ y1 y3 H locs ls h hz hl
    unfold fX2_layGap_b44 at h
    refine lv_aload_n hx hb dX2_layGap_44 rfl (lv_at hl 0 rfl) ?_
    refine va_get (v := .ref (a 18)) hx hb hts inX2_layGap_X2 hown hKK.1 hz.1 11 rfl rfl 3 (by decide) (hts _ (List.mem_of_getElem? (i := 2) rfl)) (fun _ h9 => h9) rfl dX2_layGap_45 ?_
    refine lv_iload_n hx hb dX2_layGap_48 rfl (lv_at hl 1 rfl) ?_
    refine lv_iload_n hx hb dX2_layGap_49 rfl (lv_at hl 2 rfl) ?_
    obtain ⟨r8, s9, e10, h⟩ := bd2_e h
    refine zcallVi (As := [.int y1, .int y3]) (rest := []) CF hKK (KX4_lay_c (dC := dC) (dI := dI) (cI := cI) (cZ := cZ) (a := a) hok e10) (cwV 2 hts gX2_layGap_X4_lay rfl rfl rfl cdX4_lay ⟨Nat.le_of_ble_eq_true rfl, Nat.le_of_ble_eq_true rfl⟩) 18 4 rfl rfl hz rfl hl.1 rfl (Nat.le_of_ble_eq_true rfl) dX2_layGap_50 ⟨Nat.le_refl _, Nat.le_refl _⟩ (fun H locs hz => ?_)
    exact rt r8 s9 53 _ _ _ dX2_layGap_53 h hz
  unfold fX2_layGap at h
  refine lv_aload_n hx hb dX2_layGap_0 rfl (lv_at hl 0 rfl) ?_
  refine va_get (v := .ref (a 12)) hx hb hts inX2_layGap_X2 hown hKK.1 hz.1 11 rfl rfl 2 (by decide) (hts _ (List.mem_of_getElem? (i := 1) rfl)) (fun _ h9 => h9) rfl dX2_layGap_1 ?_
  refine lv_iload_n hx hb dX2_layGap_4 rfl (lv_at hl 1 rfl) ?_
  refine lv_iload_n hx hb dX2_layGap_5 rfl (lv_at hl 2 rfl) ?_
  obtain ⟨r1, s2, e3, h⟩ := bd2_e h
  refine zcallVi (As := [.int x1, .int x2]) (rest := []) CF hKK (KX4_lay_i (dC := dC) (dI := dI) (cI := cI) (cZ := cZ) (a := a) hok e3) (cwV 2 hts gX2_layGap_X4_lay rfl rfl rfl cdX4_lay ⟨Nat.le_of_ble_eq_true rfl, Nat.le_of_ble_eq_true rfl⟩) 12 4 rfl rfl hz rfl hl.1 rfl (Nat.le_of_ble_eq_true rfl) dX2_layGap_6 ⟨Nat.le_refl _, Nat.le_refl _⟩ (fun H locs hz => ?_)
  refine lv_istore_n (lv' := [(3, .int r1), (0, .ref (a 11)), (1, .int x1), (2, .int x2)]) hx hb dX2_layGap_9 rfl hl (by decide) rfl (fun ls hl => ?_)
  refine lv_aload_n hx hb dX2_layGap_10 rfl (lv_at hl 1 rfl) ?_
  refine va_get (v := .ref (a 18)) hx hb hts inX2_layGap_X2 hown hKK.1 hz.1 11 rfl rfl 3 (by decide) (hts _ (List.mem_of_getElem? (i := 2) rfl)) (fun _ h9 => h9) rfl dX2_layGap_11 ?_
  refine lv_iload_n hx hb dX2_layGap_14 rfl (lv_at hl 2 rfl) ?_
  obtain ⟨r4, e6, h⟩ := bd1_e h
  refine zcallVi (As := [.int x1]) (rest := []) CF hKK (KX4_isIn_c (dC := dC) (dI := dI) (cI := cI) (cZ := cZ) (a := a) hok e6) (cwV 1 hts gX2_layGap_X4_isIn rfl rfl rfl cdX4_isIn ⟨Nat.le_of_ble_eq_true rfl, Nat.le_of_ble_eq_true rfl⟩) 18 4 rfl rfl hz rfl hl.1 rfl (Nat.le_of_ble_eq_true rfl) dX2_layGap_15 ⟨Nat.le_refl _, Nat.le_refl _⟩ (fun H locs hz => ?_)
  refine lv_if_eq (tgt := 44) hx hb dX2_layGap_18 (by decide) (fun c7 => ?_) (fun c7 => ?_)
  · replace h := ite_t c7 h
    exact b44  s2 x1 r1 _ _ _ h hz (lv_sub hl [1, 2, 0] rfl)
  · replace h := ite_f c7 h
    refine lv_iconst (v := (4 : Int32)) hx hb dX2_layGap_21 (by decide) ?_
    refine lv_iload_n hx hb dX2_layGap_22 rfl (lv_at hl 0 rfl) ?_
    obtain ⟨r11, e13, h⟩ := bd1_e h
    refine zcallSNi (As := [.int (4 : Int32), .int r1]) (rest := []) CF hKK (KX5_fillTo (dC := dC) (dI := dI) (cI := cI) (cZ := cZ) (a := a) hok e13) ⟨va_cnB 2 hts gX2_layGap_X5_fillTo_n114 rfl rfl rfl hKK.2.2.2.2.2.2.2.2.2.2.2.2.2.2.1 (hts _ (List.mem_of_getElem? (i := 19) rfl)) cdX5_fillTo.2 ⟨Nat.le_of_ble_eq_true rfl, Nat.le_of_ble_eq_true rfl⟩, hts _ (List.mem_of_getElem? (i := 18) rfl), trivial⟩ hz rfl hl.1 rfl (Nat.le_of_ble_eq_true rfl) dX2_layGap_23 ⟨Nat.le_refl _, Nat.le_refl _⟩ (fun H locs hz => ?_)
    refine lv_istore (lv' := [(4, .int r11), (3, .int r1), (0, .ref (a 11)), (1, .int x1), (2, .int x2)]) hx hb dX2_layGap_26 hl (by decide) rfl (fun ls hl => ?_)
    refine lv_aload_n hx hb dX2_layGap_28 rfl (lv_at hl 2 rfl) ?_
    refine lv_dup hx hb dX2_layGap_29 rfl ?_
    refine va_get (v := .int (s2 53 0)) hx hb hts inX2_layGap_X2 hown hKK.1 hz.1 11 rfl rfl 13 (by decide) (hts _ (List.mem_of_getElem? (i := 3) rfl)) (fun _ h9 => h9) rfl dX2_layGap_30 ?_
    refine lv_iload hx hb dX2_layGap_33 (lv_at hl 0 rfl) ?_
    refine lv_iadd hx hb dX2_layGap_35 ?_
    refine zput (ty := .int) (w' := wdC cI cZ a (si s2 53 ((s2 53 0) + r11))) hx hb hts inX2_layGap_X2 tyX2 tyX2_ok nmX2 hown hKK hok wkC hz 11 rfl rfl 13 (by decide) (hts _ (List.mem_of_getElem? (i := 3) rfl)) (fun _ h9 => h9) rfl rfl rfl rfl (Nat.le_of_ble_eq_true rfl) setCi_53 dX2_layGap_36 (fun H locs hz => ?_)
    refine lv_iload_n hx hb dX2_layGap_39 rfl (lv_at hl 1 rfl) ?_
    refine lv_iload hx hb dX2_layGap_40 (lv_at hl 0 rfl) ?_
    refine lv_iadd hx hb dX2_layGap_42 ?_
    refine lv_istore_n (lv' := [(3, .int (r1 + r11)), (4, .int r11), (0, .ref (a 11)), (1, .int x1), (2, .int x2)]) hx hb dX2_layGap_43 rfl hl (by decide) rfl (fun ls hl => ?_)
    exact b44  (si s2 53 ((s2 53 0) + r11)) x1 (r1 + r11) _ _ _ h hz (lv_sub hl [2, 3, 0] rfl)
def fX2_lay_b121  (σ : St) (y1 : Int32) : Option (St) :=
  some (si σ 52 y1)
def fX2_lay_s9 (k9 : St → Int32 → Int32 → Option (St)) (σ : St) (y1 : Int32) (y2 : Int32) : Option (St) :=
  (bd1 (fX0_size_p σ ) fun r1 => (if r1 ≤ y2 then (fX2_lay_b121  σ y1) else ((if (24 : Int32) ≤ y2 then (fX2_lay_b121  σ y1) else ((bd1 (fX0_kindOf_p σ y2) fun r6 => (bd1 (fX2_sizeAt σ y2 y1) fun r9 => (ck (¬ (y2 < 0 ∨ 24 ≤ Int32.toNatClampNeg y2)) <| (ck (¬ (y2 < 0 ∨ 24 ≤ Int32.toNatClampNeg y2)) <| (if r6 = (4 : Int32) then (k9 (si (sa (sa σ 25 (Int32.toNatClampNeg y2) y1) 26 (Int32.toNatClampNeg y2) r9) 53 ((σ 53 0) + r9)) (y1 + r9) (y2 + (1 : Int32))) else ((if r6 = (3 : Int32) then ((bd1 (fX0_toldOf_p (sa (sa σ 25 (Int32.toNatClampNeg y2) y1) 26 (Int32.toNatClampNeg y2) r9) y2) fun r20 => (bd1 (fX2_noteLabel (sa (sa σ 25 (Int32.toNatClampNeg y2) y1) 26 (Int32.toNatClampNeg y2) r9) r20 (y1 + r9)) fun s24 => k9 s24 (y1 + r9) (y2 + (1 : Int32))))) else ((if r6 = (5 : Int32) then ((bd2 (fX2_layGap (sa (sa σ 25 (Int32.toNatClampNeg y2) y1) 26 (Int32.toNatClampNeg y2) r9) y2 (y1 + r9)) fun r17 s18 => k9 s18 r17 (y2 + (1 : Int32)))) else (k9 (sa (sa σ 25 (Int32.toNatClampNeg y2) y1) 26 (Int32.toNatClampNeg y2) r9) (y1 + r9) (y2 + (1 : Int32)))))))))))))))))
def fX2_lay_l9  : Nat → St → Int32 → Int32 → Option (St) :=
  itr (fX2_lay_s9 ) (fun _ _ _ => none)
def fX2_lay (σ : St)  : Option (St) :=
  fX2_lay_l9  FU (si σ 53 (0 : Int32)) (0 : Int32) (0 : Int32)
abbrev rmX2_lay : Room := { frames := 3, cells := 0, slots := 0, locals := 66 }
set_option maxHeartbeats 4000000 in
set_option maxRecDepth 100000 in
theorem KX2_lay {l : Launch} {dC : Nat → ClassId} {dI : Nat → Nat → Nat} {cI cZ : ClassId} {a : Nat → Nat} {σ : St}  {σ2 : St} (hok : okA 30 a) (h : fX2_lay σ  = some σ2) (sz : Nat) : Met l yX2_lay wsX2_lay rmX2_lay (Pz (dC, dI) cI cZ (wdC cI cZ a σ) sz [.ref (a 11)]) (Qzv (dC, dI) 30 a (wdC cI cZ a σ2) sz) 0 0 (aN 30 a sz) := by
  refine Met.ofW (cc := cX2_lay) (maxL := 5) (ret := none) (by decide) rfl ?_
  intro p e s m args below meth c s₁ B hml hv
  obtain ⟨hav, hsz, hP, hKK⟩ := hv
  have hx := B.exec
  have hb := B.bytes
  have hr := B.returns
  have hts := atoms_spec (ws := wsX2_lay) B.pre
  have hown : s.vm.findClass RX2 = some m.cls := findClass_of_methodNamed B.named
  have hlocks := B.notSynchronized
  have CF : CallFix p m c cX2_lay 5 s args wsX2_lay RX2 := ⟨hx, hb, hml, hown, hts⟩
  have hz : zz (dC, dI) 30 a (wdC cI cZ a σ) s.heap s.heap [] := ⟨hP, va_S.rf⟩
  have hl := lv_entry [.ref (a 11)] (n := 5) (Nat.le_of_ble_eq_true rfl)
  have hen : entryFrame m args 5 = entryFrame m ([.ref (a 11)] : List Value).toArray 5 := by rw [hav]
  rw [hen, lg_entry_eq]
  generalize (lg_sl [.ref (a 11)] ++ List.replicate (5 - (lg_sl [.ref (a 11)]).length) Slot.unset).toArray = ls at hl ⊢
  have hl : lv_has ls 5 [(0, .ref (a 11))] := hl
  have eR : (headSpec wsX2_lay rmX2_lay).room = rmX2_lay := rfl
  rw [eR]
  have rt : ∀ (t : St) (pc : Nat) (H : Heap) (locs : List Loc) (ls : Array Slot), decode cX2_lay pc = .ok (.return_, 1) → some t = some σ2 → zz (dC, dI) 30 a (wdC cI cZ a t) s.heap H locs → W p l e rmX2_lay s m args below meth c H locs 0 0 (MQ below (Qzv (dC, dI) 30 a (wdC cI cZ a σ2) sz) args s 0 0 (aN 30 a sz)) (F0 m pc ls []) := by
    intro t pc H locs ls hd h hz
    cases h
    exact zvret hsz hx hb hr hlocks hz hd
  generalize (MQ below (Qzv (dC, dI) 30 a (wdC cI cZ a σ2) sz) args s 0 0 (aN 30 a sz)) = Q at rt ⊢
  have b121 : ∀  (σ : St) (y1 : Int32) (H : Heap) (locs : List Loc) (ls : Array Slot), fX2_lay_b121  σ y1 = some σ2 → zz (dC, dI) 30 a (wdC cI cZ a σ) s.heap H locs → lv_has ls 5 [(0, .ref (a 11)), (1, .int y1)] → W p l e rmX2_lay s m args below meth c H locs 0 0 Q (F0 m 121 ls []) := by
    intro  σ y1 H locs ls h hz hl
    unfold fX2_lay_b121 at h
    refine lv_aload_n hx hb dX2_lay_121 rfl (lv_at hl 0 rfl) ?_
    refine lv_iload_n hx hb dX2_lay_122 rfl (lv_at hl 1 rfl) ?_
    refine zput (ty := .int) (w' := wdC cI cZ a (si σ 52 y1)) hx hb hts inX2_lay_X2 tyX2 tyX2_ok nmX2 hown hKK hok wkC hz 11 rfl rfl 12 (by decide) (hts _ (List.mem_of_getElem? (i := 5) rfl)) (fun _ h9 => h9) rfl rfl rfl rfl (Nat.le_of_ble_eq_true rfl) setCi_52 dX2_lay_123 (fun H locs hz => ?_)
    exact rt (si σ 52 y1) 126 _ _ _ dX2_lay_126 h hz
  have s9 : ∀ (k9 : St → Int32 → Int32 → Option (St)) (hk9 : (∀ (σ : St) (y1 : Int32) (y2 : Int32) (H : Heap) (locs : List Loc) (ls : Array Slot), k9 σ y1 y2 = some σ2 → zz (dC, dI) 30 a (wdC cI cZ a σ) s.heap H locs → lv_has ls 5 [(0, .ref (a 11)), (1, .int y1), (2, .int y2)] → W p l e rmX2_lay s m args below meth c H locs 0 0 Q (F0 m 9 ls []))) (σ : St) (y1 : Int32) (y2 : Int32) (H : Heap) (locs : List Loc) (ls : Array Slot), fX2_lay_s9 k9 σ y1 y2 = some σ2 → zz (dC, dI) 30 a (wdC cI cZ a σ) s.heap H locs → lv_has ls 5 [(0, .ref (a 11)), (1, .int y1), (2, .int y2)] → W p l e rmX2_lay s m args below meth c H locs 0 0 Q (F0 m 9 ls []) := by
    intro k9 hk9 σ y1 y2 H locs ls h hz hl
    unfold fX2_lay_s9 at h
    refine lv_iload_n hx hb dX2_lay_9 rfl (lv_at hl 2 rfl) ?_
    refine lv_aload_n hx hb dX2_lay_10 rfl (lv_at hl 0 rfl) ?_
    refine va_get (v := .ref (a 7)) hx hb hts inX2_lay_X2 hown hKK.1 hz.1 11 rfl rfl 0 (by decide) (hts _ (List.mem_of_getElem? (i := 2) rfl)) (fun _ h9 => h9) rfl dX2_lay_11 ?_
    obtain ⟨r1, e3, h⟩ := bd1_e h
    refine zcallVi (As := []) (rest := [.int y2]) CF hKK (KX0_size_p (dC := dC) (dI := dI) (cI := cI) (cZ := cZ) (a := a) hok e3) (cwV 0 hts gX2_lay_X0_size rfl rfl rfl cdX0_size ⟨Nat.le_of_ble_eq_true rfl, Nat.le_of_ble_eq_true rfl⟩) 7 0 rfl rfl hz rfl hl.1 rfl (Nat.le_of_ble_eq_true rfl) dX2_lay_14 ⟨Nat.le_refl _, Nat.le_refl _⟩ (fun H locs hz => ?_)
    refine lv_icmp_ge (tgt := 121) hx hb dX2_lay_17 (by decide) (fun c4 => ?_) (fun c4 => ?_)
    · replace h := ite_t c4 h
      exact b121  σ y1 _ _ _ h hz (lv_sub hl [0, 1] rfl)
    · replace h := ite_f c4 h
      refine lv_iload_n hx hb dX2_lay_20 rfl (lv_at hl 2 rfl) ?_
      refine lv_bipush (v := (24 : Int32)) hx hb dX2_lay_21 (by decide) ?_
      refine lv_icmp_ge (tgt := 121) hx hb dX2_lay_23 (by decide) (fun c5 => ?_) (fun c5 => ?_)
      · replace h := ite_t c5 h
        exact b121  σ y1 _ _ _ h hz (lv_sub hl [0, 1] rfl)
      · replace h := ite_f c5 h
        refine lv_aload_n hx hb dX2_lay_26 rfl (lv_at hl 0 rfl) ?_
        refine va_get (v := .ref (a 7)) hx hb hts inX2_lay_X2 hown hKK.1 hz.1 11 rfl rfl 0 (by decide) (hts _ (List.mem_of_getElem? (i := 2) rfl)) (fun _ h9 => h9) rfl dX2_lay_27 ?_
        refine lv_iload_n hx hb dX2_lay_30 rfl (lv_at hl 2 rfl) ?_
        obtain ⟨r6, e8, h⟩ := bd1_e h
        refine zcallVi (As := [.int y2]) (rest := []) CF hKK (KX0_kindOf_p (dC := dC) (dI := dI) (cI := cI) (cZ := cZ) (a := a) hok e8) (cwV 1 hts gX2_lay_X0_kindOf rfl rfl rfl cdX0_kindOf ⟨Nat.le_of_ble_eq_true rfl, Nat.le_of_ble_eq_true rfl⟩) 7 0 rfl rfl hz rfl hl.1 rfl (Nat.le_of_ble_eq_true rfl) dX2_lay_31 ⟨Nat.le_refl _, Nat.le_refl _⟩ (fun H locs hz => ?_)
        refine lv_istore_n (lv' := [(3, .int r6), (0, .ref (a 11)), (1, .int y1), (2, .int y2)]) hx hb dX2_lay_34 rfl hl (by decide) rfl (fun ls hl => ?_)
        refine lv_aload_n hx hb dX2_lay_35 rfl (lv_at hl 1 rfl) ?_
        refine lv_iload_n hx hb dX2_lay_36 rfl (lv_at hl 3 rfl) ?_
        refine lv_iload_n hx hb dX2_lay_37 rfl (lv_at hl 2 rfl) ?_
        obtain ⟨r9, e11, h⟩ := bd1_e h
        refine zcallVi (As := [.int y2, .int y1]) (rest := []) CF hKK (KX2_sizeAt (dC := dC) (dI := dI) (cI := cI) (cZ := cZ) (a := a) hok e11) (cwV 2 hts gX2_lay_X2_sizeAt rfl rfl rfl cdX2_sizeAt ⟨Nat.le_of_ble_eq_true rfl, Nat.le_of_ble_eq_true rfl⟩) 11 2 rfl rfl hz rfl hl.1 rfl (Nat.le_of_ble_eq_true rfl) dX2_lay_38 ⟨Nat.le_refl _, Nat.le_refl _⟩ (fun H locs hz => ?_)
        refine lv_istore (lv' := [(4, .int r9), (3, .int r6), (0, .ref (a 11)), (1, .int y1), (2, .int y2)]) hx hb dX2_lay_41 hl (by decide) rfl (fun ls hl => ?_)
        refine lv_aload_n hx hb dX2_lay_43 rfl (lv_at hl 2 rfl) ?_
        refine va_get (v := .ref (a 25)) hx hb hts inX2_lay_X2 hown hKK.1 hz.1 11 rfl rfl 5 (by decide) (hts _ (List.mem_of_getElem? (i := 3) rfl)) (fun _ h9 => h9) rfl dX2_lay_44 ?_
        refine lv_iload_n hx hb dX2_lay_47 rfl (lv_at hl 4 rfl) ?_
        refine lv_iload_n hx hb dX2_lay_48 rfl (lv_at hl 3 rfl) ?_
        obtain ⟨c12, h⟩ := ck_e h
        refine ziast (f := σ 25) (w' := wdC cI cZ a (sa σ 25 (Int32.toNatClampNeg y2) y1)) hx hb hKK hok wkC hz 25 rfl c12 setCa_25 dX2_lay_49 (fun H locs hz => ?_)
        refine lv_aload_n hx hb dX2_lay_50 rfl (lv_at hl 2 rfl) ?_
        refine va_get (v := .ref (a 26)) hx hb hts inX2_lay_X2 hown hKK.1 hz.1 11 rfl rfl 6 (by decide) (hts _ (List.mem_of_getElem? (i := 4) rfl)) (fun _ h9 => h9) rfl dX2_lay_51 ?_
        refine lv_iload_n hx hb dX2_lay_54 rfl (lv_at hl 4 rfl) ?_
        refine lv_iload hx hb dX2_lay_55 (lv_at hl 0 rfl) ?_
        obtain ⟨c13, h⟩ := ck_e h
        refine ziast (f := (sa σ 25 (Int32.toNatClampNeg y2) y1) 26) (w' := wdC cI cZ a (sa (sa σ 25 (Int32.toNatClampNeg y2) y1) 26 (Int32.toNatClampNeg y2) r9)) hx hb hKK hok wkC hz 26 rfl c13 setCa_26 dX2_lay_57 (fun H locs hz => ?_)
        refine lv_iload_n hx hb dX2_lay_58 rfl (lv_at hl 3 rfl) ?_
        refine lv_iload hx hb dX2_lay_59 (lv_at hl 0 rfl) ?_
        refine lv_iadd hx hb dX2_lay_61 ?_
        refine lv_istore_n (lv' := [(1, .int (y1 + r9)), (4, .int r9), (3, .int r6), (0, .ref (a 11)), (2, .int y2)]) hx hb dX2_lay_62 rfl hl (by decide) rfl (fun ls hl => ?_)
        refine lv_iload_n hx hb dX2_lay_63 rfl (lv_at hl 2 rfl) ?_
        refine lv_iconst (v := (4 : Int32)) hx hb dX2_lay_64 (by decide) ?_
        refine lv_icmp_ne (tgt := 82) hx hb dX2_lay_65 (by decide) (fun c14 => ?_) (fun c14 => ?_)
        · replace h := ite_f c14 h
          refine lv_iload_n hx hb dX2_lay_82 rfl (lv_at hl 2 rfl) ?_
          refine lv_iconst (v := (3 : Int32)) hx hb dX2_lay_83 (by decide) ?_
          refine lv_icmp_ne (tgt := 103) hx hb dX2_lay_84 (by decide) (fun c15 => ?_) (fun c15 => ?_)
          · replace h := ite_f c15 h
            refine lv_iload_n hx hb dX2_lay_103 rfl (lv_at hl 2 rfl) ?_
            refine lv_iconst (v := (5 : Int32)) hx hb dX2_lay_104 (by decide) ?_
            refine lv_icmp_ne (tgt := 115) hx hb dX2_lay_105 (by decide) (fun c16 => ?_) (fun c16 => ?_)
            · replace h := ite_f c16 h
              refine lv_iinc (v := (y2 + (1 : Int32))) (lv' := [(2, .int (y2 + (1 : Int32))), (1, .int (y1 + r9)), (4, .int r9), (3, .int r6), (0, .ref (a 11))]) hx hb dX2_lay_115 hl (k := 4) rfl rfl (by decide) rfl (fun ls hl => ?_)
              refine lv_goto (tgt := 9) hx hb dX2_lay_118 (by decide) ?_
              exact hk9 (sa (sa σ 25 (Int32.toNatClampNeg y2) y1) 26 (Int32.toNatClampNeg y2) r9) (y1 + r9) (y2 + (1 : Int32)) _ _ _ h hz (lv_sub hl [4, 1, 0] rfl)
            · replace h := ite_t c16 h
              refine lv_aload_n hx hb dX2_lay_108 rfl (lv_at hl 3 rfl) ?_
              refine lv_iload_n hx hb dX2_lay_109 rfl (lv_at hl 4 rfl) ?_
              refine lv_iload_n hx hb dX2_lay_110 rfl (lv_at hl 0 rfl) ?_
              obtain ⟨r17, s18, e19, h⟩ := bd2_e h
              refine zcallVi (As := [.int y2, .int (y1 + r9)]) (rest := []) CF hKK (KX2_layGap (dC := dC) (dI := dI) (cI := cI) (cZ := cZ) (a := a) hok e19) (cwV 2 hts gX2_lay_X2_layGap rfl rfl rfl cdX2_layGap ⟨Nat.le_of_ble_eq_true rfl, Nat.le_of_ble_eq_true rfl⟩) 11 2 rfl rfl hz rfl hl.1 rfl (Nat.le_of_ble_eq_true rfl) dX2_lay_111 ⟨Nat.le_refl _, Nat.le_refl _⟩ (fun H locs hz => ?_)
              refine lv_istore_n (lv' := [(1, .int r17), (4, .int r9), (3, .int r6), (0, .ref (a 11)), (2, .int y2)]) hx hb dX2_lay_114 rfl hl (by decide) rfl (fun ls hl => ?_)
              refine lv_iinc (v := (y2 + (1 : Int32))) (lv' := [(2, .int (y2 + (1 : Int32))), (1, .int r17), (4, .int r9), (3, .int r6), (0, .ref (a 11))]) hx hb dX2_lay_115 hl (k := 4) rfl rfl (by decide) rfl (fun ls hl => ?_)
              refine lv_goto (tgt := 9) hx hb dX2_lay_118 (by decide) ?_
              exact hk9 s18 r17 (y2 + (1 : Int32)) _ _ _ h hz (lv_sub hl [4, 1, 0] rfl)
          · replace h := ite_t c15 h
            refine lv_aload_n hx hb dX2_lay_87 rfl (lv_at hl 3 rfl) ?_
            refine lv_aload_n hx hb dX2_lay_88 rfl (lv_at hl 3 rfl) ?_
            refine va_get (v := .ref (a 7)) hx hb hts inX2_lay_X2 hown hKK.1 hz.1 11 rfl rfl 0 (by decide) (hts _ (List.mem_of_getElem? (i := 2) rfl)) (fun _ h9 => h9) rfl dX2_lay_89 ?_
            refine lv_iload_n hx hb dX2_lay_92 rfl (lv_at hl 4 rfl) ?_
            obtain ⟨r20, e22, h⟩ := bd1_e h
            refine zcallVi (As := [.int y2]) (rest := [.ref (a 11)]) CF hKK (KX0_toldOf_p (dC := dC) (dI := dI) (cI := cI) (cZ := cZ) (a := a) hok e22) (cwV 1 hts gX2_lay_X0_toldOf rfl rfl rfl cdX0_toldOf ⟨Nat.le_of_ble_eq_true rfl, Nat.le_of_ble_eq_true rfl⟩) 7 0 rfl rfl hz rfl hl.1 rfl (Nat.le_of_ble_eq_true rfl) dX2_lay_93 ⟨Nat.le_refl _, Nat.le_refl _⟩ (fun H locs hz => ?_)
            refine lv_iload_n hx hb dX2_lay_96 rfl (lv_at hl 0 rfl) ?_
            obtain ⟨s24, e25, h⟩ := bd1_e h
            refine zcallVv (As := [.int r20, .int (y1 + r9)]) (rest := []) CF hKK (KX2_noteLabel (dC := dC) (dI := dI) (cI := cI) (cZ := cZ) (a := a) hok e25) (cwV 2 hts gX2_lay_X2_noteLabel rfl rfl rfl cdX2_noteLabel ⟨Nat.le_of_ble_eq_true rfl, Nat.le_of_ble_eq_true rfl⟩) 11 2 rfl rfl hz rfl hl.1 rfl (Nat.le_of_ble_eq_true rfl) dX2_lay_97 ⟨Nat.le_refl _, Nat.le_refl _⟩ (fun H locs hz => ?_)
            refine lv_goto (tgt := 115) hx hb dX2_lay_100 (by decide) ?_
            refine lv_iinc (v := (y2 + (1 : Int32))) (lv' := [(2, .int (y2 + (1 : Int32))), (1, .int (y1 + r9)), (4, .int r9), (3, .int r6), (0, .ref (a 11))]) hx hb dX2_lay_115 hl (k := 4) rfl rfl (by decide) rfl (fun ls hl => ?_)
            refine lv_goto (tgt := 9) hx hb dX2_lay_118 (by decide) ?_
            exact hk9 s24 (y1 + r9) (y2 + (1 : Int32)) _ _ _ h hz (lv_sub hl [4, 1, 0] rfl)
        · replace h := ite_t c14 h
          refine lv_aload_n hx hb dX2_lay_68 rfl (lv_at hl 3 rfl) ?_
          refine lv_dup hx hb dX2_lay_69 rfl ?_
          refine va_get (v := .int (σ 53 0)) hx hb hts inX2_lay_X2 hown hKK.1 hz.1 11 rfl rfl 13 (by decide) (hts _ (List.mem_of_getElem? (i := 1) rfl)) (fun _ h9 => h9) rfl dX2_lay_70 ?_
          refine lv_iload hx hb dX2_lay_73 (lv_at hl 1 rfl) ?_
          refine lv_iadd hx hb dX2_lay_75 ?_
          refine zput (ty := .int) (w' := wdC cI cZ a (si (sa (sa σ 25 (Int32.toNatClampNeg y2) y1) 26 (Int32.toNatClampNeg y2) r9) 53 ((σ 53 0) + r9))) hx hb hts inX2_lay_X2 tyX2 tyX2_ok nmX2 hown hKK hok wkC hz 11 rfl rfl 13 (by decide) (hts _ (List.mem_of_getElem? (i := 1) rfl)) (fun _ h9 => h9) rfl rfl rfl rfl (Nat.le_of_ble_eq_true rfl) setCi_53 dX2_lay_76 (fun H locs hz => ?_)
          refine lv_goto (tgt := 115) hx hb dX2_lay_79 (by decide) ?_
          refine lv_iinc (v := (y2 + (1 : Int32))) (lv' := [(2, .int (y2 + (1 : Int32))), (1, .int (y1 + r9)), (4, .int r9), (3, .int r6), (0, .ref (a 11))]) hx hb dX2_lay_115 hl (k := 4) rfl rfl (by decide) rfl (fun ls hl => ?_)
          refine lv_goto (tgt := 9) hx hb dX2_lay_118 (by decide) ?_
          exact hk9 (si (sa (sa σ 25 (Int32.toNatClampNeg y2) y1) 26 (Int32.toNatClampNeg y2) r9) 53 ((σ 53 0) + r9)) (y1 + r9) (y2 + (1 : Int32)) _ _ _ h hz (lv_sub hl [4, 1, 0] rfl)
  have l9 : ∀  (n : Nat), ∀ (σ : St) (y1 : Int32) (y2 : Int32) (H : Heap) (locs : List Loc) (ls : Array Slot), fX2_lay_l9  n σ y1 y2 = some σ2 → zz (dC, dI) 30 a (wdC cI cZ a σ) s.heap H locs → lv_has ls 5 [(0, .ref (a 11)), (1, .int y1), (2, .int y2)] → W p l e rmX2_lay s m args below meth c H locs 0 0 Q (F0 m 9 ls []) := by
    intro  n
    induction n with
    | zero => intro σ y1 y2 H locs ls h; exact nomatch h
    | succ n ih => exact s9  (fX2_lay_l9  n) ih
  unfold fX2_lay at h
  refine lv_iconst (v := (0 : Int32)) hx hb dX2_lay_0 (by decide) ?_
  refine lv_istore_n (lv' := [(1, .int (0 : Int32)), (0, .ref (a 11))]) hx hb dX2_lay_1 rfl hl (by decide) rfl (fun ls hl => ?_)
  refine lv_aload_n hx hb dX2_lay_2 rfl (lv_at hl 1 rfl) ?_
  refine lv_iconst (v := (0 : Int32)) hx hb dX2_lay_3 (by decide) ?_
  refine zput (ty := .int) (w' := wdC cI cZ a (si σ 53 (0 : Int32))) hx hb hts inX2_lay_X2 tyX2 tyX2_ok nmX2 hown hKK hok wkC hz 11 rfl rfl 13 (by decide) (hts _ (List.mem_of_getElem? (i := 1) rfl)) (fun _ h9 => h9) rfl rfl rfl rfl (Nat.le_of_ble_eq_true rfl) setCi_53 dX2_lay_4 (fun H locs hz => ?_)
  refine lv_iconst (v := (0 : Int32)) hx hb dX2_lay_7 (by decide) ?_
  refine lv_istore_n (lv' := [(2, .int (0 : Int32)), (1, .int (0 : Int32)), (0, .ref (a 11))]) hx hb dX2_lay_8 rfl hl (by decide) rfl (fun ls hl => ?_)
  exact l9  FU (si σ 53 (0 : Int32)) (0 : Int32) (0 : Int32) _ _ _ h hz (lv_sub hl [2, 1, 0] rfl)
