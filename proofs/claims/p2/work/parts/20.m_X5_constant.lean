def fX5_constant (σ : St) (x1 : Int32) (x2 : Int32) : Option (Int32) :=
  (bd1 (fX4_has_c σ x1) fun r1 => (if r1 = 0 then (some (-1001 : Int32)) else ((if x2 = (0 : Int32) then ((bd1 (fX4_nameOf_c σ x1) fun r6 => some r6)) else (if x2 = (1 : Int32) then ((bd1 (fX4_returnOf_c σ x1) fun r10 => some r10)) else (if x2 = (2 : Int32) then ((bd1 (fX4_addressOf_c σ x1) fun r14 => some r14)) else (if x2 = (3 : Int32) then ((bd1 (fX2_loadsOf σ x1) fun r18 => some r18)) else some (-1002 : Int32))))))))
abbrev rmX5_constant : Room := { frames := 3, cells := 0, slots := 0, locals := 67 }
set_option maxHeartbeats 4000000 in
set_option maxRecDepth 100000 in
theorem KX5_constant {l : Launch} {dC : Nat → ClassId} {dI : Nat → Nat → Nat} {cI cZ : ClassId} {a : Nat → Nat} {σ : St} {x1 : Int32} {x2 : Int32} {r : Int32} (hok : okA 30 a) (h : fX5_constant σ x1 x2 = some r) (sz : Nat) : Met l yX5_constant wsX5_constant rmX5_constant (Pz (dC, dI) cI cZ (wdC cI cZ a σ) sz [.ref (a 0), .int x1, .int x2]) (Qzi (dC, dI) 30 a (wdC cI cZ a σ) sz r) 0 0 (aN 30 a sz) := by
  refine Met.ofW (cc := cX5_constant) (maxL := 4) (ret := (some .int)) (by decide) rfl ?_
  intro p e s m args below meth c s₁ B hml hv
  obtain ⟨hav, hsz, hP, hKK⟩ := hv
  have hx := B.exec
  have hb := B.bytes
  have hr := B.returns
  have hts := atoms_spec (ws := wsX5_constant) B.pre
  have hown : s.vm.findClass RX5 = some m.cls := findClass_of_methodNamed B.named
  have hlocks := B.notSynchronized
  have CF : CallFix p m c cX5_constant 4 s args wsX5_constant RX5 := ⟨hx, hb, hml, hown, hts⟩
  have hz : zz (dC, dI) 30 a (wdC cI cZ a σ) s.heap s.heap [] := ⟨hP, va_S.rf⟩
  have hl := lv_entry [.ref (a 0), .int x1, .int x2] (n := 4) (Nat.le_of_ble_eq_true rfl)
  have hen : entryFrame m args 4 = entryFrame m ([.ref (a 0), .int x1, .int x2] : List Value).toArray 4 := by rw [hav]
  rw [hen, lg_entry_eq]
  generalize (lg_sl [.ref (a 0), .int x1, .int x2] ++ List.replicate (4 - (lg_sl [.ref (a 0), .int x1, .int x2]).length) Slot.unset).toArray = ls at hl ⊢
  have hl : lv_has ls 4 [(0, .ref (a 0)), (1, .int x1), (2, .int x2)] := hl
  have eR : (headSpec wsX5_constant rmX5_constant).room = rmX5_constant := rfl
  rw [eR]
  have rt : ∀ (v : Int32) (t : St) (pc : Nat) (H : Heap) (locs : List Loc) (ls : Array Slot), decode cX5_constant pc = .ok (.ireturn, 1) → some v = some r → zz (dC, dI) 30 a (wdC cI cZ a σ) s.heap H locs → W p l e rmX5_constant s m args below meth c H locs 0 0 (MQ below (Qzi (dC, dI) 30 a (wdC cI cZ a σ) sz r) args s 0 0 (aN 30 a sz)) (F0 m pc ls [.int v]) := by
    intro v t pc H locs ls hd h hz
    cases h
    exact ziret hsz hx hb hr hlocks hz hd
  generalize (MQ below (Qzi (dC, dI) 30 a (wdC cI cZ a σ) sz r) args s 0 0 (aN 30 a sz)) = Q at rt ⊢
  unfold fX5_constant at h
  refine lv_aload_n hx hb dX5_constant_0 rfl (lv_at hl 0 rfl) ?_
  refine va_get (v := .ref (a 11)) hx hb hts inX5_constant_X5 hown hKK.1 hz.1 0 rfl rfl 4 (by decide) (hts _ (List.mem_of_getElem? (i := 1) rfl)) (fun _ h9 => h9) rfl dX5_constant_1 ?_
  refine va_getN (v := .ref (a 18)) hx hb hts inX5_constant_X2 hown hKK.1 hz.1 11 rfl rfl 3 (by decide) (va_Nw.use rfl hKK.2.2.2.2.2.2.2.1) (fun _ h9 => h9) rfl dX5_constant_4 ?_
  refine lv_astore_n (lv' := [(3, .ref (a 18)), (0, .ref (a 0)), (1, .int x1), (2, .int x2)]) hx hb dX5_constant_7 rfl hl (by decide) rfl (fun ls hl => ?_)
  refine lv_aload_n hx hb dX5_constant_8 rfl (lv_at hl 0 rfl) ?_
  refine lv_iload_n hx hb dX5_constant_9 rfl (lv_at hl 2 rfl) ?_
  obtain ⟨r1, e3, h⟩ := bd1_e h
  refine zcallVi (As := [.int x1]) (rest := []) CF hKK (KX4_has_c (dC := dC) (dI := dI) (cI := cI) (cZ := cZ) (a := a) hok e3) (cwV 1 hts gX5_constant_X4_has rfl rfl rfl cdX4_has ⟨Nat.le_of_ble_eq_true rfl, Nat.le_of_ble_eq_true rfl⟩) 18 4 rfl rfl hz rfl hl.1 rfl (Nat.le_of_ble_eq_true rfl) dX5_constant_10 ⟨Nat.le_refl _, Nat.le_refl _⟩ (fun H locs hz => ?_)
  refine lv_if_ne (tgt := 20) hx hb dX5_constant_13 (by decide) (fun c4 => ?_) (fun c4 => ?_)
  · replace h := ite_f c4 h
    refine lv_iload_n hx hb dX5_constant_20 rfl (lv_at hl 3 rfl) ?_
    by_cases c5 : x2 = (0 : Int32)
    · replace h := ite_t c5 h
      refine lv_tableIn (tgt := 52) (off := 31) hx hb dX5_constant_21 (by rw [c5]; decide) (by rw [c5]; decide) (by rw [c5]; rfl) (by decide) ?_
      refine lv_aload_n hx hb dX5_constant_52 rfl (lv_at hl 0 rfl) ?_
      refine lv_iload_n hx hb dX5_constant_53 rfl (lv_at hl 2 rfl) ?_
      obtain ⟨r6, e8, h⟩ := bd1_e h
      refine zcallVi (As := [.int x1]) (rest := []) CF hKK (KX4_nameOf_c (dC := dC) (dI := dI) (cI := cI) (cZ := cZ) (a := a) hok e8) (cwV 1 hts gX5_constant_X4_nameOf rfl rfl rfl cdX4_nameOf ⟨Nat.le_of_ble_eq_true rfl, Nat.le_of_ble_eq_true rfl⟩) 18 4 rfl rfl hz rfl hl.1 rfl (Nat.le_of_ble_eq_true rfl) dX5_constant_54 ⟨Nat.le_refl _, Nat.le_refl _⟩ (fun H locs hz => ?_)
      exact rt r6 σ 57 _ _ _ dX5_constant_57 h hz
    replace h := ite_f c5 h
    by_cases c9 : x2 = (1 : Int32)
    · replace h := ite_t c9 h
      refine lv_tableIn (tgt := 58) (off := 37) hx hb dX5_constant_21 (by rw [c9]; decide) (by rw [c9]; decide) (by rw [c9]; rfl) (by decide) ?_
      refine lv_aload_n hx hb dX5_constant_58 rfl (lv_at hl 0 rfl) ?_
      refine lv_iload_n hx hb dX5_constant_59 rfl (lv_at hl 2 rfl) ?_
      obtain ⟨r10, e12, h⟩ := bd1_e h
      refine zcallVi (As := [.int x1]) (rest := []) CF hKK (KX4_returnOf_c (dC := dC) (dI := dI) (cI := cI) (cZ := cZ) (a := a) hok e12) (cwV 1 hts gX5_constant_X4_returnOf rfl rfl rfl cdX4_returnOf ⟨Nat.le_of_ble_eq_true rfl, Nat.le_of_ble_eq_true rfl⟩) 18 4 rfl rfl hz rfl hl.1 rfl (Nat.le_of_ble_eq_true rfl) dX5_constant_60 ⟨Nat.le_refl _, Nat.le_refl _⟩ (fun H locs hz => ?_)
      exact rt r10 σ 63 _ _ _ dX5_constant_63 h hz
    replace h := ite_f c9 h
    by_cases c13 : x2 = (2 : Int32)
    · replace h := ite_t c13 h
      refine lv_tableIn (tgt := 64) (off := 43) hx hb dX5_constant_21 (by rw [c13]; decide) (by rw [c13]; decide) (by rw [c13]; rfl) (by decide) ?_
      refine lv_aload_n hx hb dX5_constant_64 rfl (lv_at hl 0 rfl) ?_
      refine lv_iload_n hx hb dX5_constant_65 rfl (lv_at hl 2 rfl) ?_
      obtain ⟨r14, e16, h⟩ := bd1_e h
      refine zcallVi (As := [.int x1]) (rest := []) CF hKK (KX4_addressOf_c (dC := dC) (dI := dI) (cI := cI) (cZ := cZ) (a := a) hok e16) (cwV 1 hts gX5_constant_X4_addressOf rfl rfl rfl cdX4_addressOf ⟨Nat.le_of_ble_eq_true rfl, Nat.le_of_ble_eq_true rfl⟩) 18 4 rfl rfl hz rfl hl.1 rfl (Nat.le_of_ble_eq_true rfl) dX5_constant_66 ⟨Nat.le_refl _, Nat.le_refl _⟩ (fun H locs hz => ?_)
      exact rt r14 σ 69 _ _ _ dX5_constant_69 h hz
    replace h := ite_f c13 h
    by_cases c17 : x2 = (3 : Int32)
    · replace h := ite_t c17 h
      refine lv_tableIn (tgt := 70) (off := 49) hx hb dX5_constant_21 (by rw [c17]; decide) (by rw [c17]; decide) (by rw [c17]; rfl) (by decide) ?_
      refine lv_aload_n hx hb dX5_constant_70 rfl (lv_at hl 1 rfl) ?_
      refine va_get (v := .ref (a 11)) hx hb hts inX5_constant_X5 hown hKK.1 hz.1 0 rfl rfl 4 (by decide) (hts _ (List.mem_of_getElem? (i := 1) rfl)) (fun _ h9 => h9) rfl dX5_constant_71 ?_
      refine lv_iload_n hx hb dX5_constant_74 rfl (lv_at hl 2 rfl) ?_
      obtain ⟨r18, e20, h⟩ := bd1_e h
      refine zcallVi (As := [.int x1]) (rest := []) CF hKK (KX2_loadsOf (dC := dC) (dI := dI) (cI := cI) (cZ := cZ) (a := a) hok e20) (cwV 1 hts gX5_constant_X2_loadsOf rfl rfl rfl cdX2_loadsOf ⟨Nat.le_of_ble_eq_true rfl, Nat.le_of_ble_eq_true rfl⟩) 11 2 rfl rfl hz rfl hl.1 rfl (Nat.le_of_ble_eq_true rfl) dX5_constant_75 ⟨Nat.le_refl _, Nat.le_refl _⟩ (fun H locs hz => ?_)
      exact rt r18 σ 78 _ _ _ dX5_constant_78 h hz
    replace h := ite_f c17 h
    refine lv_tableOut (tgt := 79) hx hb dX5_constant_21 (by have := lv_neT c5 (a := 0) rfl; have := lv_neT c9 (a := 1) rfl; have := lv_neT c13 (a := 2) rfl; have := lv_neT c17 (a := 3) rfl; omega) (by decide) ?_
    refine lv_sipush (v := (-1002 : Int32)) hx hb dX5_constant_79 (by decide) ?_
    exact rt (-1002 : Int32) σ 82 _ _ _ dX5_constant_82 h hz
  · replace h := ite_t c4 h
    refine lv_sipush (v := (-1001 : Int32)) hx hb dX5_constant_16 (by decide) ?_
    exact rt (-1001 : Int32) σ 19 _ _ _ dX5_constant_19 h hz
def fX5_hops (σ : St) (x1 : Int32) : Option (Int32) :=
  (bd1 (fX0_has_p σ x1) fun r1 => (if r1 = 0 then (some (-1001 : Int32)) else ((bd1 (fX0_kindOf_p σ x1) fun r5 => (if r5 = (2 : Int32) then ((bd1 (fX2_hopsFrom σ x1) fun r9 => some r9)) else (some (-1003 : Int32)))))))
abbrev rmX5_hops : Room := { frames := 4, cells := 0, slots := 0, locals := 98 }
set_option maxHeartbeats 4000000 in
set_option maxRecDepth 100000 in
theorem KX5_hops {l : Launch} {dC : Nat → ClassId} {dI : Nat → Nat → Nat} {cI cZ : ClassId} {a : Nat → Nat} {σ : St} {x1 : Int32} {r : Int32} (hok : okA 30 a) (h : fX5_hops σ x1 = some r) (sz : Nat) : Met l yX5_hops wsX5_hops rmX5_hops (Pz (dC, dI) cI cZ (wdC cI cZ a σ) sz [.ref (a 0), .int x1]) (Qzi (dC, dI) 30 a (wdC cI cZ a σ) sz r) 0 0 (aN 30 a sz) := by
  refine Met.ofW (cc := cX5_hops) (maxL := 2) (ret := (some .int)) (by decide) rfl ?_
  intro p e s m args below meth c s₁ B hml hv
  obtain ⟨hav, hsz, hP, hKK⟩ := hv
  have hx := B.exec
  have hb := B.bytes
  have hr := B.returns
  have hts := atoms_spec (ws := wsX5_hops) B.pre
  have hown : s.vm.findClass RX5 = some m.cls := findClass_of_methodNamed B.named
  have hlocks := B.notSynchronized
  have CF : CallFix p m c cX5_hops 2 s args wsX5_hops RX5 := ⟨hx, hb, hml, hown, hts⟩
  have hz : zz (dC, dI) 30 a (wdC cI cZ a σ) s.heap s.heap [] := ⟨hP, va_S.rf⟩
  have hl := lv_entry [.ref (a 0), .int x1] (n := 2) (Nat.le_of_ble_eq_true rfl)
  have hen : entryFrame m args 2 = entryFrame m ([.ref (a 0), .int x1] : List Value).toArray 2 := by rw [hav]
  rw [hen, lg_entry_eq]
  generalize (lg_sl [.ref (a 0), .int x1] ++ List.replicate (2 - (lg_sl [.ref (a 0), .int x1]).length) Slot.unset).toArray = ls at hl ⊢
  have hl : lv_has ls 2 [(0, .ref (a 0)), (1, .int x1)] := hl
  have eR : (headSpec wsX5_hops rmX5_hops).room = rmX5_hops := rfl
  rw [eR]
  have rt : ∀ (v : Int32) (t : St) (pc : Nat) (H : Heap) (locs : List Loc) (ls : Array Slot), decode cX5_hops pc = .ok (.ireturn, 1) → some v = some r → zz (dC, dI) 30 a (wdC cI cZ a σ) s.heap H locs → W p l e rmX5_hops s m args below meth c H locs 0 0 (MQ below (Qzi (dC, dI) 30 a (wdC cI cZ a σ) sz r) args s 0 0 (aN 30 a sz)) (F0 m pc ls [.int v]) := by
    intro v t pc H locs ls hd h hz
    cases h
    exact ziret hsz hx hb hr hlocks hz hd
  generalize (MQ below (Qzi (dC, dI) 30 a (wdC cI cZ a σ) sz r) args s 0 0 (aN 30 a sz)) = Q at rt ⊢
  unfold fX5_hops at h
  refine lv_aload_n hx hb dX5_hops_0 rfl (lv_at hl 0 rfl) ?_
  refine va_get (v := .ref (a 7)) hx hb hts inX5_hops_X5 hown hKK.1 hz.1 0 rfl rfl 2 (by decide) (hts _ (List.mem_of_getElem? (i := 1) rfl)) (fun _ h9 => h9) rfl dX5_hops_1 ?_
  refine lv_iload_n hx hb dX5_hops_4 rfl (lv_at hl 1 rfl) ?_
  obtain ⟨r1, e3, h⟩ := bd1_e h
  refine zcallVi (As := [.int x1]) (rest := []) CF hKK (KX0_has_p (dC := dC) (dI := dI) (cI := cI) (cZ := cZ) (a := a) hok e3) (cwV 1 hts gX5_hops_X0_has rfl rfl rfl cdX0_has ⟨Nat.le_of_ble_eq_true rfl, Nat.le_of_ble_eq_true rfl⟩) 7 0 rfl rfl hz rfl hl.1 rfl (Nat.le_of_ble_eq_true rfl) dX5_hops_5 ⟨Nat.le_refl _, Nat.le_refl _⟩ (fun H locs hz => ?_)
  refine lv_if_ne (tgt := 15) hx hb dX5_hops_8 (by decide) (fun c4 => ?_) (fun c4 => ?_)
  · replace h := ite_f c4 h
    refine lv_aload_n hx hb dX5_hops_15 rfl (lv_at hl 0 rfl) ?_
    refine va_get (v := .ref (a 7)) hx hb hts inX5_hops_X5 hown hKK.1 hz.1 0 rfl rfl 2 (by decide) (hts _ (List.mem_of_getElem? (i := 1) rfl)) (fun _ h9 => h9) rfl dX5_hops_16 ?_
    refine lv_iload_n hx hb dX5_hops_19 rfl (lv_at hl 1 rfl) ?_
    obtain ⟨r5, e7, h⟩ := bd1_e h
    refine zcallVi (As := [.int x1]) (rest := []) CF hKK (KX0_kindOf_p (dC := dC) (dI := dI) (cI := cI) (cZ := cZ) (a := a) hok e7) (cwV 1 hts gX5_hops_X0_kindOf rfl rfl rfl cdX0_kindOf ⟨Nat.le_of_ble_eq_true rfl, Nat.le_of_ble_eq_true rfl⟩) 7 0 rfl rfl hz rfl hl.1 rfl (Nat.le_of_ble_eq_true rfl) dX5_hops_20 ⟨Nat.le_refl _, Nat.le_refl _⟩ (fun H locs hz => ?_)
    refine lv_iconst (v := (2 : Int32)) hx hb dX5_hops_23 (by decide) ?_
    refine lv_icmp_eq (tgt := 31) hx hb dX5_hops_24 (by decide) (fun c8 => ?_) (fun c8 => ?_)
    · replace h := ite_t c8 h
      refine lv_aload_n hx hb dX5_hops_31 rfl (lv_at hl 0 rfl) ?_
      refine va_get (v := .ref (a 11)) hx hb hts inX5_hops_X5 hown hKK.1 hz.1 0 rfl rfl 4 (by decide) (hts _ (List.mem_of_getElem? (i := 2) rfl)) (fun _ h9 => h9) rfl dX5_hops_32 ?_
      refine lv_iload_n hx hb dX5_hops_35 rfl (lv_at hl 1 rfl) ?_
      obtain ⟨r9, e11, h⟩ := bd1_e h
      refine zcallVi (As := [.int x1]) (rest := []) CF hKK (KX2_hopsFrom (dC := dC) (dI := dI) (cI := cI) (cZ := cZ) (a := a) hok e11) (cwV 1 hts gX5_hops_X2_hopsFrom rfl rfl rfl cdX2_hopsFrom ⟨Nat.le_of_ble_eq_true rfl, Nat.le_of_ble_eq_true rfl⟩) 11 2 rfl rfl hz rfl hl.1 rfl (Nat.le_of_ble_eq_true rfl) dX5_hops_36 ⟨Nat.le_refl _, Nat.le_refl _⟩ (fun H locs hz => ?_)
      exact rt r9 σ 39 _ _ _ dX5_hops_39 h hz
    · replace h := ite_f c8 h
      refine lv_sipush (v := (-1003 : Int32)) hx hb dX5_hops_27 (by decide) ?_
      exact rt (-1003 : Int32) σ 30 _ _ _ dX5_hops_30 h hz
  · replace h := ite_t c4 h
    refine lv_sipush (v := (-1001 : Int32)) hx hb dX5_hops_11 (by decide) ?_
    exact rt (-1001 : Int32) σ 14 _ _ _ dX5_hops_14 h hz
def fX5_placed (σ : St) (x1 : Int32) : Option (Int32) :=
  (if x1 = (0 : Int32) then ((if (σ 54 0) = 0 then (some (1 : Int32)) else (some (0 : Int32)))) else (if x1 = (1 : Int32) then (some (σ 51 0)) else (if x1 = (2 : Int32) then (some (σ 52 0)) else (if x1 = (3 : Int32) then (some (σ 53 0)) else (if x1 = (4 : Int32) then (some (σ 54 0)) else (if x1 = (5 : Int32) then (some (σ 55 0)) else (if x1 = (6 : Int32) then ((bd1 (fX4_size_i σ ) fun r9 => some r9)) else (if x1 = (7 : Int32) then ((bd1 (fX4_size_c σ ) fun r13 => some r13)) else (if x1 = (8 : Int32) then (some (σ 50 0)) else some (-1002 : Int32))))))))))
abbrev rmX5_placed : Room := { frames := 1, cells := 0, slots := 0, locals := 20 }
set_option maxHeartbeats 4000000 in
set_option maxRecDepth 100000 in
theorem KX5_placed {l : Launch} {dC : Nat → ClassId} {dI : Nat → Nat → Nat} {cI cZ : ClassId} {a : Nat → Nat} {σ : St} {x1 : Int32} {r : Int32} (hok : okA 30 a) (h : fX5_placed σ x1 = some r) (sz : Nat) : Met l yX5_placed wsX5_placed rmX5_placed (Pz (dC, dI) cI cZ (wdC cI cZ a σ) sz [.ref (a 0), .int x1]) (Qzi (dC, dI) 30 a (wdC cI cZ a σ) sz r) 0 0 (aN 30 a sz) := by
  refine Met.ofW (cc := cX5_placed) (maxL := 2) (ret := (some .int)) (by decide) rfl ?_
  intro p e s m args below meth c s₁ B hml hv
  obtain ⟨hav, hsz, hP, hKK⟩ := hv
  have hx := B.exec
  have hb := B.bytes
  have hr := B.returns
  have hts := atoms_spec (ws := wsX5_placed) B.pre
  have hown : s.vm.findClass RX5 = some m.cls := findClass_of_methodNamed B.named
  have hlocks := B.notSynchronized
  have CF : CallFix p m c cX5_placed 2 s args wsX5_placed RX5 := ⟨hx, hb, hml, hown, hts⟩
  have hz : zz (dC, dI) 30 a (wdC cI cZ a σ) s.heap s.heap [] := ⟨hP, va_S.rf⟩
  have hl := lv_entry [.ref (a 0), .int x1] (n := 2) (Nat.le_of_ble_eq_true rfl)
  have hen : entryFrame m args 2 = entryFrame m ([.ref (a 0), .int x1] : List Value).toArray 2 := by rw [hav]
  rw [hen, lg_entry_eq]
  generalize (lg_sl [.ref (a 0), .int x1] ++ List.replicate (2 - (lg_sl [.ref (a 0), .int x1]).length) Slot.unset).toArray = ls at hl ⊢
  have hl : lv_has ls 2 [(0, .ref (a 0)), (1, .int x1)] := hl
  have eR : (headSpec wsX5_placed rmX5_placed).room = rmX5_placed := rfl
  rw [eR]
  have rt : ∀ (v : Int32) (t : St) (pc : Nat) (H : Heap) (locs : List Loc) (ls : Array Slot), decode cX5_placed pc = .ok (.ireturn, 1) → some v = some r → zz (dC, dI) 30 a (wdC cI cZ a σ) s.heap H locs → W p l e rmX5_placed s m args below meth c H locs 0 0 (MQ below (Qzi (dC, dI) 30 a (wdC cI cZ a σ) sz r) args s 0 0 (aN 30 a sz)) (F0 m pc ls [.int v]) := by
    intro v t pc H locs ls hd h hz
    cases h
    exact ziret hsz hx hb hr hlocks hz hd
  generalize (MQ below (Qzi (dC, dI) 30 a (wdC cI cZ a σ) sz r) args s 0 0 (aN 30 a sz)) = Q at rt ⊢
  unfold fX5_placed at h
  refine lv_iload_n hx hb dX5_placed_0 rfl (lv_at hl 1 rfl) ?_
  by_cases c1 : x1 = (0 : Int32)
  · replace h := ite_t c1 h
    refine lv_tableIn (tgt := 52) (off := 51) hx hb dX5_placed_1 (by rw [c1]; decide) (by rw [c1]; decide) (by rw [c1]; rfl) (by decide) ?_
    refine lv_aload_n hx hb dX5_placed_52 rfl (lv_at hl 0 rfl) ?_
    refine va_get (v := .ref (a 11)) hx hb hts inX5_placed_X5 hown hKK.1 hz.1 0 rfl rfl 4 (by decide) (hts _ (List.mem_of_getElem? (i := 1) rfl)) (fun _ h9 => h9) rfl dX5_placed_53 ?_
    refine va_getN (v := .int (σ 54 0)) hx hb hts inX5_placed_X2 hown hKK.1 hz.1 11 rfl rfl 14 (by decide) (va_Nw.use rfl hKK.2.2.2.2.2.2.2.2.2.2.2.2.1) (fun _ h9 => h9) rfl dX5_placed_56 ?_
    refine lv_if_ne (tgt := 66) hx hb dX5_placed_59 (by decide) (fun c2 => ?_) (fun c2 => ?_)
    · replace h := ite_f c2 h
      refine lv_iconst (v := (0 : Int32)) hx hb dX5_placed_66 (by decide) ?_
      exact rt (0 : Int32) σ 67 _ _ _ dX5_placed_67 h hz
    · replace h := ite_t c2 h
      refine lv_iconst (v := (1 : Int32)) hx hb dX5_placed_62 (by decide) ?_
      refine lv_goto (tgt := 67) hx hb dX5_placed_63 (by decide) ?_
      exact rt (1 : Int32) σ 67 _ _ _ dX5_placed_67 h hz
  replace h := ite_f c1 h
  by_cases c3 : x1 = (1 : Int32)
  · replace h := ite_t c3 h
    refine lv_tableIn (tgt := 68) (off := 67) hx hb dX5_placed_1 (by rw [c3]; decide) (by rw [c3]; decide) (by rw [c3]; rfl) (by decide) ?_
    refine lv_aload_n hx hb dX5_placed_68 rfl (lv_at hl 0 rfl) ?_
    refine va_get (v := .ref (a 11)) hx hb hts inX5_placed_X5 hown hKK.1 hz.1 0 rfl rfl 4 (by decide) (hts _ (List.mem_of_getElem? (i := 1) rfl)) (fun _ h9 => h9) rfl dX5_placed_69 ?_
    refine va_getN (v := .int (σ 51 0)) hx hb hts inX5_placed_X2 hown hKK.1 hz.1 11 rfl rfl 11 (by decide) (va_Nw.use rfl hKK.2.2.2.2.2.2.2.2.2.1) (fun _ h9 => h9) rfl dX5_placed_72 ?_
    exact rt (σ 51 0) σ 75 _ _ _ dX5_placed_75 h hz
  replace h := ite_f c3 h
  by_cases c4 : x1 = (2 : Int32)
  · replace h := ite_t c4 h
    refine lv_tableIn (tgt := 76) (off := 75) hx hb dX5_placed_1 (by rw [c4]; decide) (by rw [c4]; decide) (by rw [c4]; rfl) (by decide) ?_
    refine lv_aload_n hx hb dX5_placed_76 rfl (lv_at hl 0 rfl) ?_
    refine va_get (v := .ref (a 11)) hx hb hts inX5_placed_X5 hown hKK.1 hz.1 0 rfl rfl 4 (by decide) (hts _ (List.mem_of_getElem? (i := 1) rfl)) (fun _ h9 => h9) rfl dX5_placed_77 ?_
    refine va_getN (v := .int (σ 52 0)) hx hb hts inX5_placed_X2 hown hKK.1 hz.1 11 rfl rfl 12 (by decide) (va_Nw.use rfl hKK.2.2.2.2.2.2.2.2.2.2.1) (fun _ h9 => h9) rfl dX5_placed_80 ?_
    exact rt (σ 52 0) σ 83 _ _ _ dX5_placed_83 h hz
  replace h := ite_f c4 h
  by_cases c5 : x1 = (3 : Int32)
  · replace h := ite_t c5 h
    refine lv_tableIn (tgt := 84) (off := 83) hx hb dX5_placed_1 (by rw [c5]; decide) (by rw [c5]; decide) (by rw [c5]; rfl) (by decide) ?_
    refine lv_aload_n hx hb dX5_placed_84 rfl (lv_at hl 0 rfl) ?_
    refine va_get (v := .ref (a 11)) hx hb hts inX5_placed_X5 hown hKK.1 hz.1 0 rfl rfl 4 (by decide) (hts _ (List.mem_of_getElem? (i := 1) rfl)) (fun _ h9 => h9) rfl dX5_placed_85 ?_
    refine va_getN (v := .int (σ 53 0)) hx hb hts inX5_placed_X2 hown hKK.1 hz.1 11 rfl rfl 13 (by decide) (va_Nw.use rfl hKK.2.2.2.2.2.2.2.2.2.2.2.1) (fun _ h9 => h9) rfl dX5_placed_88 ?_
    exact rt (σ 53 0) σ 91 _ _ _ dX5_placed_91 h hz
  replace h := ite_f c5 h
  by_cases c6 : x1 = (4 : Int32)
  · replace h := ite_t c6 h
    refine lv_tableIn (tgt := 92) (off := 91) hx hb dX5_placed_1 (by rw [c6]; decide) (by rw [c6]; decide) (by rw [c6]; rfl) (by decide) ?_
    refine lv_aload_n hx hb dX5_placed_92 rfl (lv_at hl 0 rfl) ?_
    refine va_get (v := .ref (a 11)) hx hb hts inX5_placed_X5 hown hKK.1 hz.1 0 rfl rfl 4 (by decide) (hts _ (List.mem_of_getElem? (i := 1) rfl)) (fun _ h9 => h9) rfl dX5_placed_93 ?_
    refine va_getN (v := .int (σ 54 0)) hx hb hts inX5_placed_X2 hown hKK.1 hz.1 11 rfl rfl 14 (by decide) (va_Nw.use rfl hKK.2.2.2.2.2.2.2.2.2.2.2.2.1) (fun _ h9 => h9) rfl dX5_placed_96 ?_
    exact rt (σ 54 0) σ 99 _ _ _ dX5_placed_99 h hz
  replace h := ite_f c6 h
  by_cases c7 : x1 = (5 : Int32)
  · replace h := ite_t c7 h
    refine lv_tableIn (tgt := 100) (off := 99) hx hb dX5_placed_1 (by rw [c7]; decide) (by rw [c7]; decide) (by rw [c7]; rfl) (by decide) ?_
    refine lv_aload_n hx hb dX5_placed_100 rfl (lv_at hl 0 rfl) ?_
    refine va_get (v := .ref (a 11)) hx hb hts inX5_placed_X5 hown hKK.1 hz.1 0 rfl rfl 4 (by decide) (hts _ (List.mem_of_getElem? (i := 1) rfl)) (fun _ h9 => h9) rfl dX5_placed_101 ?_
    refine va_getN (v := .int (σ 55 0)) hx hb hts inX5_placed_X2 hown hKK.1 hz.1 11 rfl rfl 15 (by decide) (va_Nw.use rfl hKK.2.2.2.2.2.2.2.2.2.2.2.2.2.1) (fun _ h9 => h9) rfl dX5_placed_104 ?_
    exact rt (σ 55 0) σ 107 _ _ _ dX5_placed_107 h hz
  replace h := ite_f c7 h
  by_cases c8 : x1 = (6 : Int32)
  · replace h := ite_t c8 h
    refine lv_tableIn (tgt := 108) (off := 107) hx hb dX5_placed_1 (by rw [c8]; decide) (by rw [c8]; decide) (by rw [c8]; rfl) (by decide) ?_
    refine lv_aload_n hx hb dX5_placed_108 rfl (lv_at hl 0 rfl) ?_
    refine va_get (v := .ref (a 11)) hx hb hts inX5_placed_X5 hown hKK.1 hz.1 0 rfl rfl 4 (by decide) (hts _ (List.mem_of_getElem? (i := 1) rfl)) (fun _ h9 => h9) rfl dX5_placed_109 ?_
    refine va_getN (v := .ref (a 12)) hx hb hts inX5_placed_X2 hown hKK.1 hz.1 11 rfl rfl 2 (by decide) (va_Nw.use rfl hKK.2.2.2.2.2.2.1) (fun _ h9 => h9) rfl dX5_placed_112 ?_
    obtain ⟨r9, e11, h⟩ := bd1_e h
    refine zcallVi (As := []) (rest := []) CF hKK (KX4_size_i (dC := dC) (dI := dI) (cI := cI) (cZ := cZ) (a := a) hok e11) (cwV 0 hts gX5_placed_X4_size rfl rfl rfl cdX4_size ⟨Nat.le_of_ble_eq_true rfl, Nat.le_of_ble_eq_true rfl⟩) 12 4 rfl rfl hz rfl hl.1 rfl (Nat.le_of_ble_eq_true rfl) dX5_placed_115 ⟨Nat.le_refl _, Nat.le_refl _⟩ (fun H locs hz => ?_)
    exact rt r9 σ 118 _ _ _ dX5_placed_118 h hz
  replace h := ite_f c8 h
  by_cases c12 : x1 = (7 : Int32)
  · replace h := ite_t c12 h
    refine lv_tableIn (tgt := 119) (off := 118) hx hb dX5_placed_1 (by rw [c12]; decide) (by rw [c12]; decide) (by rw [c12]; rfl) (by decide) ?_
    refine lv_aload_n hx hb dX5_placed_119 rfl (lv_at hl 0 rfl) ?_
    refine va_get (v := .ref (a 11)) hx hb hts inX5_placed_X5 hown hKK.1 hz.1 0 rfl rfl 4 (by decide) (hts _ (List.mem_of_getElem? (i := 1) rfl)) (fun _ h9 => h9) rfl dX5_placed_120 ?_
    refine va_getN (v := .ref (a 18)) hx hb hts inX5_placed_X2 hown hKK.1 hz.1 11 rfl rfl 3 (by decide) (va_Nw.use rfl hKK.2.2.2.2.2.2.2.1) (fun _ h9 => h9) rfl dX5_placed_123 ?_
    obtain ⟨r13, e15, h⟩ := bd1_e h
    refine zcallVi (As := []) (rest := []) CF hKK (KX4_size_c (dC := dC) (dI := dI) (cI := cI) (cZ := cZ) (a := a) hok e15) (cwV 0 hts gX5_placed_X4_size rfl rfl rfl cdX4_size ⟨Nat.le_of_ble_eq_true rfl, Nat.le_of_ble_eq_true rfl⟩) 18 4 rfl rfl hz rfl hl.1 rfl (Nat.le_of_ble_eq_true rfl) dX5_placed_126 ⟨Nat.le_refl _, Nat.le_refl _⟩ (fun H locs hz => ?_)
    exact rt r13 σ 129 _ _ _ dX5_placed_129 h hz
  replace h := ite_f c12 h
  by_cases c16 : x1 = (8 : Int32)
  · replace h := ite_t c16 h
    refine lv_tableIn (tgt := 130) (off := 129) hx hb dX5_placed_1 (by rw [c16]; decide) (by rw [c16]; decide) (by rw [c16]; rfl) (by decide) ?_
    refine lv_aload_n hx hb dX5_placed_130 rfl (lv_at hl 0 rfl) ?_
    refine va_get (v := .ref (a 11)) hx hb hts inX5_placed_X5 hown hKK.1 hz.1 0 rfl rfl 4 (by decide) (hts _ (List.mem_of_getElem? (i := 1) rfl)) (fun _ h9 => h9) rfl dX5_placed_131 ?_
    refine va_getN (v := .int (σ 50 0)) hx hb hts inX5_placed_X2 hown hKK.1 hz.1 11 rfl rfl 10 (by decide) (va_Nw.use rfl hKK.2.2.2.2.2.2.2.2.1) (fun _ h9 => h9) rfl dX5_placed_134 ?_
    exact rt (σ 50 0) σ 137 _ _ _ dX5_placed_137 h hz
  replace h := ite_f c16 h
  refine lv_tableOut (tgt := 138) hx hb dX5_placed_1 (by have := lv_neT c1 (a := 0) rfl; have := lv_neT c3 (a := 1) rfl; have := lv_neT c4 (a := 2) rfl; have := lv_neT c5 (a := 3) rfl; have := lv_neT c6 (a := 4) rfl; have := lv_neT c7 (a := 5) rfl; have := lv_neT c8 (a := 6) rfl; have := lv_neT c12 (a := 7) rfl; have := lv_neT c16 (a := 8) rfl; omega) (by decide) ?_
  refine lv_sipush (v := (-1002 : Int32)) hx hb dX5_placed_138 (by decide) ?_
  exact rt (-1002 : Int32) σ 141 _ _ _ dX5_placed_141 h hz
def fX5_count (σ : St) (x1 : Int32) : Option (Int32) :=
  (if x1 = (0 : Int32) then ((bd1 (fX0_size_p σ ) fun r2 => some r2)) else (if x1 = (1 : Int32) then ((bd1 (fX1_length σ ) fun r6 => some r6)) else (if x1 = (2 : Int32) then ((bd1 (fX0_gaps_p σ ) fun r10 => some r10)) else (if x1 = (3 : Int32) then (some ((σ 10) (Int32.toNatClampNeg (0 : Int32)))) else (if x1 = (4 : Int32) then (some ((σ 10) (Int32.toNatClampNeg (1 : Int32)))) else (if x1 = (5 : Int32) then (some ((σ 10) (Int32.toNatClampNeg (2 : Int32)))) else (if x1 = (6 : Int32) then (some (σ 40 0)) else (if x1 = (7 : Int32) then (some (σ 41 0)) else some (-1002 : Int32)))))))))
abbrev rmX5_count : Room := { frames := 1, cells := 0, slots := 0, locals := 20 }
set_option maxHeartbeats 4000000 in
set_option maxRecDepth 100000 in
theorem KX5_count {l : Launch} {dC : Nat → ClassId} {dI : Nat → Nat → Nat} {cI cZ : ClassId} {a : Nat → Nat} {σ : St} {x1 : Int32} {r : Int32} (hok : okA 30 a) (h : fX5_count σ x1 = some r) (sz : Nat) : Met l yX5_count wsX5_count rmX5_count (Pz (dC, dI) cI cZ (wdC cI cZ a σ) sz [.ref (a 0), .int x1]) (Qzi (dC, dI) 30 a (wdC cI cZ a σ) sz r) 0 0 (aN 30 a sz) := by
  refine Met.ofW (cc := cX5_count) (maxL := 2) (ret := (some .int)) (by decide) rfl ?_
  intro p e s m args below meth c s₁ B hml hv
  obtain ⟨hav, hsz, hP, hKK⟩ := hv
  have hx := B.exec
  have hb := B.bytes
  have hr := B.returns
  have hts := atoms_spec (ws := wsX5_count) B.pre
  have hown : s.vm.findClass RX5 = some m.cls := findClass_of_methodNamed B.named
  have hlocks := B.notSynchronized
  have CF : CallFix p m c cX5_count 2 s args wsX5_count RX5 := ⟨hx, hb, hml, hown, hts⟩
  have hz : zz (dC, dI) 30 a (wdC cI cZ a σ) s.heap s.heap [] := ⟨hP, va_S.rf⟩
  have hl := lv_entry [.ref (a 0), .int x1] (n := 2) (Nat.le_of_ble_eq_true rfl)
  have hen : entryFrame m args 2 = entryFrame m ([.ref (a 0), .int x1] : List Value).toArray 2 := by rw [hav]
  rw [hen, lg_entry_eq]
  generalize (lg_sl [.ref (a 0), .int x1] ++ List.replicate (2 - (lg_sl [.ref (a 0), .int x1]).length) Slot.unset).toArray = ls at hl ⊢
  have hl : lv_has ls 2 [(0, .ref (a 0)), (1, .int x1)] := hl
  have eR : (headSpec wsX5_count rmX5_count).room = rmX5_count := rfl
  rw [eR]
  have rt : ∀ (v : Int32) (t : St) (pc : Nat) (H : Heap) (locs : List Loc) (ls : Array Slot), decode cX5_count pc = .ok (.ireturn, 1) → some v = some r → zz (dC, dI) 30 a (wdC cI cZ a σ) s.heap H locs → W p l e rmX5_count s m args below meth c H locs 0 0 (MQ below (Qzi (dC, dI) 30 a (wdC cI cZ a σ) sz r) args s 0 0 (aN 30 a sz)) (F0 m pc ls [.int v]) := by
    intro v t pc H locs ls hd h hz
    cases h
    exact ziret hsz hx hb hr hlocks hz hd
  generalize (MQ below (Qzi (dC, dI) 30 a (wdC cI cZ a σ) sz r) args s 0 0 (aN 30 a sz)) = Q at rt ⊢
  unfold fX5_count at h
  refine lv_iload_n hx hb dX5_count_0 rfl (lv_at hl 1 rfl) ?_
  by_cases c1 : x1 = (0 : Int32)
  · replace h := ite_t c1 h
    refine lv_tableIn (tgt := 48) (off := 47) hx hb dX5_count_1 (by rw [c1]; decide) (by rw [c1]; decide) (by rw [c1]; rfl) (by decide) ?_
    refine lv_aload_n hx hb dX5_count_48 rfl (lv_at hl 0 rfl) ?_
    refine va_get (v := .ref (a 7)) hx hb hts inX5_count_X5 hown hKK.1 hz.1 0 rfl rfl 2 (by decide) (hts _ (List.mem_of_getElem? (i := 1) rfl)) (fun _ h9 => h9) rfl dX5_count_49 ?_
    obtain ⟨r2, e4, h⟩ := bd1_e h
    refine zcallVi (As := []) (rest := []) CF hKK (KX0_size_p (dC := dC) (dI := dI) (cI := cI) (cZ := cZ) (a := a) hok e4) (cwV 0 hts gX5_count_X0_size rfl rfl rfl cdX0_size ⟨Nat.le_of_ble_eq_true rfl, Nat.le_of_ble_eq_true rfl⟩) 7 0 rfl rfl hz rfl hl.1 rfl (Nat.le_of_ble_eq_true rfl) dX5_count_52 ⟨Nat.le_refl _, Nat.le_refl _⟩ (fun H locs hz => ?_)
    exact rt r2 σ 55 _ _ _ dX5_count_55 h hz
  replace h := ite_f c1 h
  by_cases c5 : x1 = (1 : Int32)
  · replace h := ite_t c5 h
    refine lv_tableIn (tgt := 56) (off := 55) hx hb dX5_count_1 (by rw [c5]; decide) (by rw [c5]; decide) (by rw [c5]; rfl) (by decide) ?_
    refine lv_aload_n hx hb dX5_count_56 rfl (lv_at hl 0 rfl) ?_
    refine va_get (v := .ref (a 1)) hx hb hts inX5_count_X5 hown hKK.1 hz.1 0 rfl rfl 0 (by decide) (hts _ (List.mem_of_getElem? (i := 2) rfl)) (fun _ h9 => h9) rfl dX5_count_57 ?_
    obtain ⟨r6, e8, h⟩ := bd1_e h
    refine zcallVi (As := []) (rest := []) CF hKK (KX1_length (dC := dC) (dI := dI) (cI := cI) (cZ := cZ) (a := a) hok e8) (cwV 0 hts gX5_count_X1_length rfl rfl rfl cdX1_length ⟨Nat.le_of_ble_eq_true rfl, Nat.le_of_ble_eq_true rfl⟩) 1 1 rfl rfl hz rfl hl.1 rfl (Nat.le_of_ble_eq_true rfl) dX5_count_60 ⟨Nat.le_refl _, Nat.le_refl _⟩ (fun H locs hz => ?_)
    exact rt r6 σ 63 _ _ _ dX5_count_63 h hz
  replace h := ite_f c5 h
  by_cases c9 : x1 = (2 : Int32)
  · replace h := ite_t c9 h
    refine lv_tableIn (tgt := 64) (off := 63) hx hb dX5_count_1 (by rw [c9]; decide) (by rw [c9]; decide) (by rw [c9]; rfl) (by decide) ?_
    refine lv_aload_n hx hb dX5_count_64 rfl (lv_at hl 0 rfl) ?_
    refine va_get (v := .ref (a 7)) hx hb hts inX5_count_X5 hown hKK.1 hz.1 0 rfl rfl 2 (by decide) (hts _ (List.mem_of_getElem? (i := 1) rfl)) (fun _ h9 => h9) rfl dX5_count_65 ?_
    obtain ⟨r10, e12, h⟩ := bd1_e h
    refine zcallVi (As := []) (rest := []) CF hKK (KX0_gaps_p (dC := dC) (dI := dI) (cI := cI) (cZ := cZ) (a := a) hok e12) (cwV 0 hts gX5_count_X0_gaps rfl rfl rfl cdX0_gaps ⟨Nat.le_of_ble_eq_true rfl, Nat.le_of_ble_eq_true rfl⟩) 7 0 rfl rfl hz rfl hl.1 rfl (Nat.le_of_ble_eq_true rfl) dX5_count_68 ⟨Nat.le_refl _, Nat.le_refl _⟩ (fun H locs hz => ?_)
    exact rt r10 σ 71 _ _ _ dX5_count_71 h hz
  replace h := ite_f c9 h
  by_cases c13 : x1 = (3 : Int32)
  · replace h := ite_t c13 h
    refine lv_tableIn (tgt := 72) (off := 71) hx hb dX5_count_1 (by rw [c13]; decide) (by rw [c13]; decide) (by rw [c13]; rfl) (by decide) ?_
    refine lv_aload_n hx hb dX5_count_72 rfl (lv_at hl 0 rfl) ?_
    refine va_get (v := .ref (a 10)) hx hb hts inX5_count_X5 hown hKK.1 hz.1 0 rfl rfl 3 (by decide) (hts _ (List.mem_of_getElem? (i := 3) rfl)) (fun _ h9 => h9) rfl dX5_count_73 ?_
    refine lv_iconst (v := (0 : Int32)) hx hb dX5_count_76 (by decide) ?_
    refine va_iald (f := (σ 10)) hx hb hKK.1 hz.1 10 0 rfl rfl (by decide : vp_inD (0 : Int32) 3) dX5_count_77 ?_
    exact rt ((σ 10) (Int32.toNatClampNeg (0 : Int32))) σ 78 _ _ _ dX5_count_78 h hz
  replace h := ite_f c13 h
  by_cases c14 : x1 = (4 : Int32)
  · replace h := ite_t c14 h
    refine lv_tableIn (tgt := 79) (off := 78) hx hb dX5_count_1 (by rw [c14]; decide) (by rw [c14]; decide) (by rw [c14]; rfl) (by decide) ?_
    refine lv_aload_n hx hb dX5_count_79 rfl (lv_at hl 0 rfl) ?_
    refine va_get (v := .ref (a 10)) hx hb hts inX5_count_X5 hown hKK.1 hz.1 0 rfl rfl 3 (by decide) (hts _ (List.mem_of_getElem? (i := 3) rfl)) (fun _ h9 => h9) rfl dX5_count_80 ?_
    refine lv_iconst (v := (1 : Int32)) hx hb dX5_count_83 (by decide) ?_
    refine va_iald (f := (σ 10)) hx hb hKK.1 hz.1 10 0 rfl rfl (by decide : vp_inD (1 : Int32) 3) dX5_count_84 ?_
    exact rt ((σ 10) (Int32.toNatClampNeg (1 : Int32))) σ 85 _ _ _ dX5_count_85 h hz
  replace h := ite_f c14 h
  by_cases c15 : x1 = (5 : Int32)
  · replace h := ite_t c15 h
    refine lv_tableIn (tgt := 86) (off := 85) hx hb dX5_count_1 (by rw [c15]; decide) (by rw [c15]; decide) (by rw [c15]; rfl) (by decide) ?_
    refine lv_aload_n hx hb dX5_count_86 rfl (lv_at hl 0 rfl) ?_
    refine va_get (v := .ref (a 10)) hx hb hts inX5_count_X5 hown hKK.1 hz.1 0 rfl rfl 3 (by decide) (hts _ (List.mem_of_getElem? (i := 3) rfl)) (fun _ h9 => h9) rfl dX5_count_87 ?_
    refine lv_iconst (v := (2 : Int32)) hx hb dX5_count_90 (by decide) ?_
    refine va_iald (f := (σ 10)) hx hb hKK.1 hz.1 10 0 rfl rfl (by decide : vp_inD (2 : Int32) 3) dX5_count_91 ?_
    exact rt ((σ 10) (Int32.toNatClampNeg (2 : Int32))) σ 92 _ _ _ dX5_count_92 h hz
  replace h := ite_f c15 h
  by_cases c16 : x1 = (6 : Int32)
  · replace h := ite_t c16 h
    refine lv_tableIn (tgt := 93) (off := 92) hx hb dX5_count_1 (by rw [c16]; decide) (by rw [c16]; decide) (by rw [c16]; rfl) (by decide) ?_
    refine lv_aload_n hx hb dX5_count_93 rfl (lv_at hl 0 rfl) ?_
    refine va_get (v := .int (σ 40 0)) hx hb hts inX5_count_X5 hown hKK.1 hz.1 0 rfl rfl 5 (by decide) (hts _ (List.mem_of_getElem? (i := 4) rfl)) (fun _ h9 => h9) rfl dX5_count_94 ?_
    exact rt (σ 40 0) σ 97 _ _ _ dX5_count_97 h hz
  replace h := ite_f c16 h
  by_cases c17 : x1 = (7 : Int32)
  · replace h := ite_t c17 h
    refine lv_tableIn (tgt := 98) (off := 97) hx hb dX5_count_1 (by rw [c17]; decide) (by rw [c17]; decide) (by rw [c17]; rfl) (by decide) ?_
    refine lv_aload_n hx hb dX5_count_98 rfl (lv_at hl 0 rfl) ?_
    refine va_get (v := .int (σ 41 0)) hx hb hts inX5_count_X5 hown hKK.1 hz.1 0 rfl rfl 6 (by decide) (hts _ (List.mem_of_getElem? (i := 5) rfl)) (fun _ h9 => h9) rfl dX5_count_99 ?_
    exact rt (σ 41 0) σ 102 _ _ _ dX5_count_102 h hz
  replace h := ite_f c17 h
  refine lv_tableOut (tgt := 103) hx hb dX5_count_1 (by have := lv_neT c1 (a := 0) rfl; have := lv_neT c5 (a := 1) rfl; have := lv_neT c9 (a := 2) rfl; have := lv_neT c13 (a := 3) rfl; have := lv_neT c14 (a := 4) rfl; have := lv_neT c15 (a := 5) rfl; have := lv_neT c16 (a := 6) rfl; have := lv_neT c17 (a := 7) rfl; omega) (by decide) ?_
  refine lv_sipush (v := (-1002 : Int32)) hx hb dX5_count_103 (by decide) ?_
  exact rt (-1002 : Int32) σ 106 _ _ _ dX5_count_106 h hz
def fX5_digestItems_s20 (σ : St) (k5 : Int64 → Int32 → Option (Int64)) (k20 : Int64 → Int32 → Int32 → Option (Int64)) (y3 : Int64) (y5 : Int32) (y6 : Int32) : Option (Int64) :=
  (if (6 : Int32) ≤ y6 then (k5 y3 (y5 + (1 : Int32))) else ((bd1 (fX5_item σ y5 y6) fun r6 => k20 (((31 : Int64) * y3) + (Int32.toInt64 r6)) y5 (y6 + (1 : Int32)))))
def fX5_digestItems_l20 (σ : St) (k5 : Int64 → Int32 → Option (Int64)) : Nat → Int64 → Int32 → Int32 → Option (Int64) :=
  itr (fX5_digestItems_s20 σ k5) (fun _ _ _ => none)
def fX5_digestItems_s5 (σ : St) (k5 : Int64 → Int32 → Option (Int64)) (y3 : Int64) (y5 : Int32) : Option (Int64) :=
  (bd1 (fX0_size_p σ ) fun r1 => (if r1 ≤ y5 then (some y3) else (fX5_digestItems_l20 σ k5 FU y3 y5 (0 : Int32))))
def fX5_digestItems_l5 (σ : St)  : Nat → Int64 → Int32 → Option (Int64) :=
  itr (fX5_digestItems_s5 σ ) (fun _ _ => none)
def fX5_digestItems (σ : St) (x1 : Int64) : Option (Int64) :=
  fX5_digestItems_l5 σ  FU x1 (0 : Int32)
abbrev rmX5_digestItems : Room := { frames := 3, cells := 0, slots := 0, locals := 64 }
set_option maxHeartbeats 4000000 in
set_option maxRecDepth 100000 in
theorem KX5_digestItems {l : Launch} {dC : Nat → ClassId} {dI : Nat → Nat → Nat} {cI cZ : ClassId} {a : Nat → Nat} {σ : St} {x1 : Int64} {r : Int64} (hok : okA 30 a) (h : fX5_digestItems σ x1 = some r) (sz : Nat) : Met l yX5_digestItems wsX5_digestItems rmX5_digestItems (Pz (dC, dI) cI cZ (wdC cI cZ a σ) sz [.ref (a 0), .long x1]) (Qzl (dC, dI) 30 a (wdC cI cZ a σ) sz r) 0 0 (aN 30 a sz) := by
  refine Met.ofW (cc := cX5_digestItems) (maxL := 7) (ret := (some .long)) (by decide) rfl ?_
  intro p e s m args below meth c s₁ B hml hv
  obtain ⟨hav, hsz, hP, hKK⟩ := hv
  have hx := B.exec
  have hb := B.bytes
  have hr := B.returns
  have hts := atoms_spec (ws := wsX5_digestItems) B.pre
  have hown : s.vm.findClass RX5 = some m.cls := findClass_of_methodNamed B.named
  have hlocks := B.notSynchronized
  have CF : CallFix p m c cX5_digestItems 7 s args wsX5_digestItems RX5 := ⟨hx, hb, hml, hown, hts⟩
  have hz : zz (dC, dI) 30 a (wdC cI cZ a σ) s.heap s.heap [] := ⟨hP, va_S.rf⟩
  have hl := lv_entry [.ref (a 0), .long x1] (n := 7) (Nat.le_of_ble_eq_true rfl)
  have hen : entryFrame m args 7 = entryFrame m ([.ref (a 0), .long x1] : List Value).toArray 7 := by rw [hav]
  rw [hen, lg_entry_eq]
  generalize (lg_sl [.ref (a 0), .long x1] ++ List.replicate (7 - (lg_sl [.ref (a 0), .long x1]).length) Slot.unset).toArray = ls at hl ⊢
  have hl : lv_has ls 7 [(0, .ref (a 0)), (1, .long x1)] := hl
  have eR : (headSpec wsX5_digestItems rmX5_digestItems).room = rmX5_digestItems := rfl
  rw [eR]
  have rt : ∀ (v : Int64) (t : St) (pc : Nat) (H : Heap) (locs : List Loc) (ls : Array Slot), decode cX5_digestItems pc = .ok (.lreturn, 1) → some v = some r → zz (dC, dI) 30 a (wdC cI cZ a σ) s.heap H locs → W p l e rmX5_digestItems s m args below meth c H locs 0 0 (MQ below (Qzl (dC, dI) 30 a (wdC cI cZ a σ) sz r) args s 0 0 (aN 30 a sz)) (F0 m pc ls [.long v]) := by
    intro v t pc H locs ls hd h hz
    cases h
    exact zlret hsz hx hb hr hlocks hz hd
  generalize (MQ below (Qzl (dC, dI) 30 a (wdC cI cZ a σ) sz r) args s 0 0 (aN 30 a sz)) = Q at rt ⊢
  have s20 : ∀ (k5 : Int64 → Int32 → Option (Int64)) (hk5 : (∀ (y3 : Int64) (y5 : Int32) (H : Heap) (locs : List Loc) (ls : Array Slot), k5 y3 y5 = some r → zz (dC, dI) 30 a (wdC cI cZ a σ) s.heap H locs → lv_has ls 7 [(0, .ref (a 0)), (3, .long y3), (5, .int y5)] → W p l e rmX5_digestItems s m args below meth c H locs 0 0 Q (F0 m 5 ls []))) (k20 : Int64 → Int32 → Int32 → Option (Int64)) (hk20 : (∀ (y3 : Int64) (y5 : Int32) (y6 : Int32) (H : Heap) (locs : List Loc) (ls : Array Slot), k20 y3 y5 y6 = some r → zz (dC, dI) 30 a (wdC cI cZ a σ) s.heap H locs → lv_has ls 7 [(0, .ref (a 0)), (3, .long y3), (5, .int y5), (6, .int y6)] → W p l e rmX5_digestItems s m args below meth c H locs 0 0 Q (F0 m 20 ls []))) (y3 : Int64) (y5 : Int32) (y6 : Int32) (H : Heap) (locs : List Loc) (ls : Array Slot), fX5_digestItems_s20 σ k5 k20 y3 y5 y6 = some r → zz (dC, dI) 30 a (wdC cI cZ a σ) s.heap H locs → lv_has ls 7 [(0, .ref (a 0)), (3, .long y3), (5, .int y5), (6, .int y6)] → W p l e rmX5_digestItems s m args below meth c H locs 0 0 Q (F0 m 20 ls []) := by
    intro k5 hk5 k20 hk20 y3 y5 y6 H locs ls h hz hl
    unfold fX5_digestItems_s20 at h
    refine lv_iload hx hb dX5_digestItems_20 (lv_at hl 3 rfl) ?_
    refine lv_bipush (v := (6 : Int32)) hx hb dX5_digestItems_22 (by decide) ?_
    refine lv_icmp_ge (tgt := 49) hx hb dX5_digestItems_24 (by decide) (fun c5 => ?_) (fun c5 => ?_)
    · replace h := ite_t c5 h
      refine lv_iinc (v := (y5 + (1 : Int32))) (lv' := [(5, .int (y5 + (1 : Int32))), (0, .ref (a 0)), (3, .long y3), (6, .int y6)]) hx hb dX5_digestItems_49 hl (k := 2) rfl rfl (by decide) rfl (fun ls hl => ?_)
      refine lv_goto (tgt := 5) hx hb dX5_digestItems_52 (by decide) ?_
      exact hk5 y3 (y5 + (1 : Int32)) _ _ _ h hz (lv_sub hl [1, 2, 0] rfl)
    · replace h := ite_f c5 h
      refine lv_ldc2 (v := (31 : Int64)) hx hb hown (hts _ (List.mem_of_getElem? (i := 2) rfl)) dX5_digestItems_27 ?_
      refine lv_lload_n hx hb dX5_digestItems_30 rfl (lv_at hl 1 rfl) ?_
      refine lv_lmul hx hb dX5_digestItems_31 ?_
      refine lv_aload_n hx hb dX5_digestItems_32 rfl (lv_at hl 0 rfl) ?_
      refine lv_iload hx hb dX5_digestItems_33 (lv_at hl 2 rfl) ?_
      refine lv_iload hx hb dX5_digestItems_35 (lv_at hl 3 rfl) ?_
      obtain ⟨r6, e8, h⟩ := bd1_e h
      refine zcallVi (As := [.int y5, .int y6]) (rest := [.long ((31 : Int64) * y3)]) CF hKK (KX5_item (dC := dC) (dI := dI) (cI := cI) (cZ := cZ) (a := a) hok e8) (cwV 2 hts gX5_digestItems_X5_item rfl rfl rfl cdX5_item ⟨Nat.le_of_ble_eq_true rfl, Nat.le_of_ble_eq_true rfl⟩) 0 5 rfl rfl hz rfl hl.1 rfl (Nat.le_of_ble_eq_true rfl) dX5_digestItems_37 ⟨Nat.le_refl _, Nat.le_refl _⟩ (fun H locs hz => ?_)
      refine lv_i2l (v := (Int32.toInt64 r6)) hx hb dX5_digestItems_40 rfl ?_
      refine lv_ladd hx hb dX5_digestItems_41 ?_
      refine lv_lstore_n (lv' := [(3, .long (((31 : Int64) * y3) + (Int32.toInt64 r6))), (0, .ref (a 0)), (5, .int y5), (6, .int y6)]) hx hb dX5_digestItems_42 rfl hl (by decide) rfl (fun ls hl => ?_)
      refine lv_iinc (v := (y6 + (1 : Int32))) (lv' := [(6, .int (y6 + (1 : Int32))), (3, .long (((31 : Int64) * y3) + (Int32.toInt64 r6))), (0, .ref (a 0)), (5, .int y5)]) hx hb dX5_digestItems_43 hl (k := 3) rfl rfl (by decide) rfl (fun ls hl => ?_)
      refine lv_goto (tgt := 20) hx hb dX5_digestItems_46 (by decide) ?_
      exact hk20 (((31 : Int64) * y3) + (Int32.toInt64 r6)) y5 (y6 + (1 : Int32)) _ _ _ h hz (lv_sub hl [2, 1, 3, 0] rfl)
  have l20 : ∀ (k5 : Int64 → Int32 → Option (Int64)) (hk5 : (∀ (y3 : Int64) (y5 : Int32) (H : Heap) (locs : List Loc) (ls : Array Slot), k5 y3 y5 = some r → zz (dC, dI) 30 a (wdC cI cZ a σ) s.heap H locs → lv_has ls 7 [(0, .ref (a 0)), (3, .long y3), (5, .int y5)] → W p l e rmX5_digestItems s m args below meth c H locs 0 0 Q (F0 m 5 ls []))) (n : Nat), ∀ (y3 : Int64) (y5 : Int32) (y6 : Int32) (H : Heap) (locs : List Loc) (ls : Array Slot), fX5_digestItems_l20 σ k5 n y3 y5 y6 = some r → zz (dC, dI) 30 a (wdC cI cZ a σ) s.heap H locs → lv_has ls 7 [(0, .ref (a 0)), (3, .long y3), (5, .int y5), (6, .int y6)] → W p l e rmX5_digestItems s m args below meth c H locs 0 0 Q (F0 m 20 ls []) := by
    intro k5 hk5 n
    induction n with
    | zero => intro y3 y5 y6 H locs ls h; exact nomatch h
    | succ n ih => exact s20 k5 hk5 (fX5_digestItems_l20 σ k5 n) ih
  have s5 : ∀ (k5 : Int64 → Int32 → Option (Int64)) (hk5 : (∀ (y3 : Int64) (y5 : Int32) (H : Heap) (locs : List Loc) (ls : Array Slot), k5 y3 y5 = some r → zz (dC, dI) 30 a (wdC cI cZ a σ) s.heap H locs → lv_has ls 7 [(0, .ref (a 0)), (3, .long y3), (5, .int y5)] → W p l e rmX5_digestItems s m args below meth c H locs 0 0 Q (F0 m 5 ls []))) (y3 : Int64) (y5 : Int32) (H : Heap) (locs : List Loc) (ls : Array Slot), fX5_digestItems_s5 σ k5 y3 y5 = some r → zz (dC, dI) 30 a (wdC cI cZ a σ) s.heap H locs → lv_has ls 7 [(0, .ref (a 0)), (3, .long y3), (5, .int y5)] → W p l e rmX5_digestItems s m args below meth c H locs 0 0 Q (F0 m 5 ls []) := by
    intro k5 hk5 y3 y5 H locs ls h hz hl
    unfold fX5_digestItems_s5 at h
    refine lv_iload hx hb dX5_digestItems_5 (lv_at hl 2 rfl) ?_
    refine lv_aload_n hx hb dX5_digestItems_7 rfl (lv_at hl 0 rfl) ?_
    refine va_get (v := .ref (a 7)) hx hb hts inX5_digestItems_X5 hown hKK.1 hz.1 0 rfl rfl 2 (by decide) (hts _ (List.mem_of_getElem? (i := 1) rfl)) (fun _ h9 => h9) rfl dX5_digestItems_8 ?_
    obtain ⟨r1, e3, h⟩ := bd1_e h
    refine zcallVi (As := []) (rest := [.int y5]) CF hKK (KX0_size_p (dC := dC) (dI := dI) (cI := cI) (cZ := cZ) (a := a) hok e3) (cwV 0 hts gX5_digestItems_X0_size rfl rfl rfl cdX0_size ⟨Nat.le_of_ble_eq_true rfl, Nat.le_of_ble_eq_true rfl⟩) 7 0 rfl rfl hz rfl hl.1 rfl (Nat.le_of_ble_eq_true rfl) dX5_digestItems_11 ⟨Nat.le_refl _, Nat.le_refl _⟩ (fun H locs hz => ?_)
    refine lv_icmp_ge (tgt := 55) hx hb dX5_digestItems_14 (by decide) (fun c4 => ?_) (fun c4 => ?_)
    · replace h := ite_t c4 h
      refine lv_lload_n hx hb dX5_digestItems_55 rfl (lv_at hl 1 rfl) ?_
      exact rt y3 σ 56 _ _ _ dX5_digestItems_56 h hz
    · replace h := ite_f c4 h
      refine lv_iconst (v := (0 : Int32)) hx hb dX5_digestItems_17 (by decide) ?_
      refine lv_istore (lv' := [(6, .int (0 : Int32)), (0, .ref (a 0)), (3, .long y3), (5, .int y5)]) hx hb dX5_digestItems_18 hl (by decide) rfl (fun ls hl => ?_)
      exact l20 k5 hk5 FU y3 y5 (0 : Int32) _ _ _ h hz (lv_sub hl [1, 2, 3, 0] rfl)
  have l5 : ∀  (n : Nat), ∀ (y3 : Int64) (y5 : Int32) (H : Heap) (locs : List Loc) (ls : Array Slot), fX5_digestItems_l5 σ  n y3 y5 = some r → zz (dC, dI) 30 a (wdC cI cZ a σ) s.heap H locs → lv_has ls 7 [(0, .ref (a 0)), (3, .long y3), (5, .int y5)] → W p l e rmX5_digestItems s m args below meth c H locs 0 0 Q (F0 m 5 ls []) := by
    intro  n
    induction n with
    | zero => intro y3 y5 H locs ls h; exact nomatch h
    | succ n ih => exact s5  (fX5_digestItems_l5 σ  n) ih
  unfold fX5_digestItems at h
  refine lv_lload_n hx hb dX5_digestItems_0 rfl (lv_at hl 1 rfl) ?_
  refine lv_lstore_n (lv' := [(3, .long x1), (0, .ref (a 0)), (1, .long x1)]) hx hb dX5_digestItems_1 rfl hl (by decide) rfl (fun ls hl => ?_)
  refine lv_iconst (v := (0 : Int32)) hx hb dX5_digestItems_2 (by decide) ?_
  refine lv_istore (lv' := [(5, .int (0 : Int32)), (3, .long x1), (0, .ref (a 0)), (1, .long x1)]) hx hb dX5_digestItems_3 hl (by decide) rfl (fun ls hl => ?_)
  exact l5  FU x1 (0 : Int32) _ _ _ h hz (lv_sub hl [2, 1, 0] rfl)
def fX5_digestIslands_s23 (σ : St) (k5 : Int64 → Int32 → Option (Int64)) (k23 : Int64 → Int32 → Int32 → Option (Int64)) (y3 : Int64) (y5 : Int32) (y6 : Int32) : Option (Int64) :=
  (if (4 : Int32) ≤ y6 then (k5 y3 (y5 + (1 : Int32))) else ((bd1 (fX5_island σ y5 y6) fun r6 => k23 (((31 : Int64) * y3) + (Int32.toInt64 r6)) y5 (y6 + (1 : Int32)))))
def fX5_digestIslands_l23 (σ : St) (k5 : Int64 → Int32 → Option (Int64)) : Nat → Int64 → Int32 → Int32 → Option (Int64) :=
  itr (fX5_digestIslands_s23 σ k5) (fun _ _ _ => none)
def fX5_digestIslands_s5 (σ : St) (k5 : Int64 → Int32 → Option (Int64)) (y3 : Int64) (y5 : Int32) : Option (Int64) :=
  (bd1 (fX4_size_i σ ) fun r1 => (if r1 ≤ y5 then (some y3) else (fX5_digestIslands_l23 σ k5 FU y3 y5 (0 : Int32))))
def fX5_digestIslands_l5 (σ : St)  : Nat → Int64 → Int32 → Option (Int64) :=
  itr (fX5_digestIslands_s5 σ ) (fun _ _ => none)
def fX5_digestIslands (σ : St) (x1 : Int64) : Option (Int64) :=
  fX5_digestIslands_l5 σ  FU x1 (0 : Int32)
abbrev rmX5_digestIslands : Room := { frames := 3, cells := 0, slots := 0, locals := 66 }
set_option maxHeartbeats 4000000 in
set_option maxRecDepth 100000 in
theorem KX5_digestIslands {l : Launch} {dC : Nat → ClassId} {dI : Nat → Nat → Nat} {cI cZ : ClassId} {a : Nat → Nat} {σ : St} {x1 : Int64} {r : Int64} (hok : okA 30 a) (h : fX5_digestIslands σ x1 = some r) (sz : Nat) : Met l yX5_digestIslands wsX5_digestIslands rmX5_digestIslands (Pz (dC, dI) cI cZ (wdC cI cZ a σ) sz [.ref (a 0), .long x1]) (Qzl (dC, dI) 30 a (wdC cI cZ a σ) sz r) 0 0 (aN 30 a sz) := by
  refine Met.ofW (cc := cX5_digestIslands) (maxL := 7) (ret := (some .long)) (by decide) rfl ?_
  intro p e s m args below meth c s₁ B hml hv
  obtain ⟨hav, hsz, hP, hKK⟩ := hv
  have hx := B.exec
  have hb := B.bytes
  have hr := B.returns
  have hts := atoms_spec (ws := wsX5_digestIslands) B.pre
  have hown : s.vm.findClass RX5 = some m.cls := findClass_of_methodNamed B.named
  have hlocks := B.notSynchronized
  have CF : CallFix p m c cX5_digestIslands 7 s args wsX5_digestIslands RX5 := ⟨hx, hb, hml, hown, hts⟩
  have hz : zz (dC, dI) 30 a (wdC cI cZ a σ) s.heap s.heap [] := ⟨hP, va_S.rf⟩
  have hl := lv_entry [.ref (a 0), .long x1] (n := 7) (Nat.le_of_ble_eq_true rfl)
  have hen : entryFrame m args 7 = entryFrame m ([.ref (a 0), .long x1] : List Value).toArray 7 := by rw [hav]
  rw [hen, lg_entry_eq]
  generalize (lg_sl [.ref (a 0), .long x1] ++ List.replicate (7 - (lg_sl [.ref (a 0), .long x1]).length) Slot.unset).toArray = ls at hl ⊢
  have hl : lv_has ls 7 [(0, .ref (a 0)), (1, .long x1)] := hl
  have eR : (headSpec wsX5_digestIslands rmX5_digestIslands).room = rmX5_digestIslands := rfl
  rw [eR]
  have rt : ∀ (v : Int64) (t : St) (pc : Nat) (H : Heap) (locs : List Loc) (ls : Array Slot), decode cX5_digestIslands pc = .ok (.lreturn, 1) → some v = some r → zz (dC, dI) 30 a (wdC cI cZ a σ) s.heap H locs → W p l e rmX5_digestIslands s m args below meth c H locs 0 0 (MQ below (Qzl (dC, dI) 30 a (wdC cI cZ a σ) sz r) args s 0 0 (aN 30 a sz)) (F0 m pc ls [.long v]) := by
    intro v t pc H locs ls hd h hz
    cases h
    exact zlret hsz hx hb hr hlocks hz hd
  generalize (MQ below (Qzl (dC, dI) 30 a (wdC cI cZ a σ) sz r) args s 0 0 (aN 30 a sz)) = Q at rt ⊢
  have s23 : ∀ (k5 : Int64 → Int32 → Option (Int64)) (hk5 : (∀ (y3 : Int64) (y5 : Int32) (H : Heap) (locs : List Loc) (ls : Array Slot), k5 y3 y5 = some r → zz (dC, dI) 30 a (wdC cI cZ a σ) s.heap H locs → lv_has ls 7 [(0, .ref (a 0)), (3, .long y3), (5, .int y5)] → W p l e rmX5_digestIslands s m args below meth c H locs 0 0 Q (F0 m 5 ls []))) (k23 : Int64 → Int32 → Int32 → Option (Int64)) (hk23 : (∀ (y3 : Int64) (y5 : Int32) (y6 : Int32) (H : Heap) (locs : List Loc) (ls : Array Slot), k23 y3 y5 y6 = some r → zz (dC, dI) 30 a (wdC cI cZ a σ) s.heap H locs → lv_has ls 7 [(0, .ref (a 0)), (3, .long y3), (5, .int y5), (6, .int y6)] → W p l e rmX5_digestIslands s m args below meth c H locs 0 0 Q (F0 m 23 ls []))) (y3 : Int64) (y5 : Int32) (y6 : Int32) (H : Heap) (locs : List Loc) (ls : Array Slot), fX5_digestIslands_s23 σ k5 k23 y3 y5 y6 = some r → zz (dC, dI) 30 a (wdC cI cZ a σ) s.heap H locs → lv_has ls 7 [(0, .ref (a 0)), (3, .long y3), (5, .int y5), (6, .int y6)] → W p l e rmX5_digestIslands s m args below meth c H locs 0 0 Q (F0 m 23 ls []) := by
    intro k5 hk5 k23 hk23 y3 y5 y6 H locs ls h hz hl
    unfold fX5_digestIslands_s23 at h
    refine lv_iload hx hb dX5_digestIslands_23 (lv_at hl 3 rfl) ?_
    refine lv_iconst (v := (4 : Int32)) hx hb dX5_digestIslands_25 (by decide) ?_
    refine lv_icmp_ge (tgt := 51) hx hb dX5_digestIslands_26 (by decide) (fun c5 => ?_) (fun c5 => ?_)
    · replace h := ite_t c5 h
      refine lv_iinc (v := (y5 + (1 : Int32))) (lv' := [(5, .int (y5 + (1 : Int32))), (0, .ref (a 0)), (3, .long y3), (6, .int y6)]) hx hb dX5_digestIslands_51 hl (k := 2) rfl rfl (by decide) rfl (fun ls hl => ?_)
      refine lv_goto (tgt := 5) hx hb dX5_digestIslands_54 (by decide) ?_
      exact hk5 y3 (y5 + (1 : Int32)) _ _ _ h hz (lv_sub hl [1, 2, 0] rfl)
    · replace h := ite_f c5 h
      refine lv_ldc2 (v := (31 : Int64)) hx hb hown (hts _ (List.mem_of_getElem? (i := 2) rfl)) dX5_digestIslands_29 ?_
      refine lv_lload_n hx hb dX5_digestIslands_32 rfl (lv_at hl 1 rfl) ?_
      refine lv_lmul hx hb dX5_digestIslands_33 ?_
      refine lv_aload_n hx hb dX5_digestIslands_34 rfl (lv_at hl 0 rfl) ?_
      refine lv_iload hx hb dX5_digestIslands_35 (lv_at hl 2 rfl) ?_
      refine lv_iload hx hb dX5_digestIslands_37 (lv_at hl 3 rfl) ?_
      obtain ⟨r6, e8, h⟩ := bd1_e h
      refine zcallVi (As := [.int y5, .int y6]) (rest := [.long ((31 : Int64) * y3)]) CF hKK (KX5_island (dC := dC) (dI := dI) (cI := cI) (cZ := cZ) (a := a) hok e8) (cwV 2 hts gX5_digestIslands_X5_island rfl rfl rfl cdX5_island ⟨Nat.le_of_ble_eq_true rfl, Nat.le_of_ble_eq_true rfl⟩) 0 5 rfl rfl hz rfl hl.1 rfl (Nat.le_of_ble_eq_true rfl) dX5_digestIslands_39 ⟨Nat.le_refl _, Nat.le_refl _⟩ (fun H locs hz => ?_)
      refine lv_i2l (v := (Int32.toInt64 r6)) hx hb dX5_digestIslands_42 rfl ?_
      refine lv_ladd hx hb dX5_digestIslands_43 ?_
      refine lv_lstore_n (lv' := [(3, .long (((31 : Int64) * y3) + (Int32.toInt64 r6))), (0, .ref (a 0)), (5, .int y5), (6, .int y6)]) hx hb dX5_digestIslands_44 rfl hl (by decide) rfl (fun ls hl => ?_)
      refine lv_iinc (v := (y6 + (1 : Int32))) (lv' := [(6, .int (y6 + (1 : Int32))), (3, .long (((31 : Int64) * y3) + (Int32.toInt64 r6))), (0, .ref (a 0)), (5, .int y5)]) hx hb dX5_digestIslands_45 hl (k := 3) rfl rfl (by decide) rfl (fun ls hl => ?_)
      refine lv_goto (tgt := 23) hx hb dX5_digestIslands_48 (by decide) ?_
      exact hk23 (((31 : Int64) * y3) + (Int32.toInt64 r6)) y5 (y6 + (1 : Int32)) _ _ _ h hz (lv_sub hl [2, 1, 3, 0] rfl)
  have l23 : ∀ (k5 : Int64 → Int32 → Option (Int64)) (hk5 : (∀ (y3 : Int64) (y5 : Int32) (H : Heap) (locs : List Loc) (ls : Array Slot), k5 y3 y5 = some r → zz (dC, dI) 30 a (wdC cI cZ a σ) s.heap H locs → lv_has ls 7 [(0, .ref (a 0)), (3, .long y3), (5, .int y5)] → W p l e rmX5_digestIslands s m args below meth c H locs 0 0 Q (F0 m 5 ls []))) (n : Nat), ∀ (y3 : Int64) (y5 : Int32) (y6 : Int32) (H : Heap) (locs : List Loc) (ls : Array Slot), fX5_digestIslands_l23 σ k5 n y3 y5 y6 = some r → zz (dC, dI) 30 a (wdC cI cZ a σ) s.heap H locs → lv_has ls 7 [(0, .ref (a 0)), (3, .long y3), (5, .int y5), (6, .int y6)] → W p l e rmX5_digestIslands s m args below meth c H locs 0 0 Q (F0 m 23 ls []) := by
    intro k5 hk5 n
    induction n with
    | zero => intro y3 y5 y6 H locs ls h; exact nomatch h
    | succ n ih => exact s23 k5 hk5 (fX5_digestIslands_l23 σ k5 n) ih
  have s5 : ∀ (k5 : Int64 → Int32 → Option (Int64)) (hk5 : (∀ (y3 : Int64) (y5 : Int32) (H : Heap) (locs : List Loc) (ls : Array Slot), k5 y3 y5 = some r → zz (dC, dI) 30 a (wdC cI cZ a σ) s.heap H locs → lv_has ls 7 [(0, .ref (a 0)), (3, .long y3), (5, .int y5)] → W p l e rmX5_digestIslands s m args below meth c H locs 0 0 Q (F0 m 5 ls []))) (y3 : Int64) (y5 : Int32) (H : Heap) (locs : List Loc) (ls : Array Slot), fX5_digestIslands_s5 σ k5 y3 y5 = some r → zz (dC, dI) 30 a (wdC cI cZ a σ) s.heap H locs → lv_has ls 7 [(0, .ref (a 0)), (3, .long y3), (5, .int y5)] → W p l e rmX5_digestIslands s m args below meth c H locs 0 0 Q (F0 m 5 ls []) := by
    intro k5 hk5 y3 y5 H locs ls h hz hl
    unfold fX5_digestIslands_s5 at h
    refine lv_iload hx hb dX5_digestIslands_5 (lv_at hl 2 rfl) ?_
    refine lv_aload_n hx hb dX5_digestIslands_7 rfl (lv_at hl 0 rfl) ?_
    refine va_get (v := .ref (a 11)) hx hb hts inX5_digestIslands_X5 hown hKK.1 hz.1 0 rfl rfl 4 (by decide) (hts _ (List.mem_of_getElem? (i := 1) rfl)) (fun _ h9 => h9) rfl dX5_digestIslands_8 ?_
    refine va_getN (v := .ref (a 12)) hx hb hts inX5_digestIslands_X2 hown hKK.1 hz.1 11 rfl rfl 2 (by decide) (va_Nw.use rfl hKK.2.2.2.2.2.2.1) (fun _ h9 => h9) rfl dX5_digestIslands_11 ?_
    obtain ⟨r1, e3, h⟩ := bd1_e h
    refine zcallVi (As := []) (rest := [.int y5]) CF hKK (KX4_size_i (dC := dC) (dI := dI) (cI := cI) (cZ := cZ) (a := a) hok e3) (cwV 0 hts gX5_digestIslands_X4_size rfl rfl rfl cdX4_size ⟨Nat.le_of_ble_eq_true rfl, Nat.le_of_ble_eq_true rfl⟩) 12 4 rfl rfl hz rfl hl.1 rfl (Nat.le_of_ble_eq_true rfl) dX5_digestIslands_14 ⟨Nat.le_refl _, Nat.le_refl _⟩ (fun H locs hz => ?_)
    refine lv_icmp_ge (tgt := 57) hx hb dX5_digestIslands_17 (by decide) (fun c4 => ?_) (fun c4 => ?_)
    · replace h := ite_t c4 h
      refine lv_lload_n hx hb dX5_digestIslands_57 rfl (lv_at hl 1 rfl) ?_
      exact rt y3 σ 58 _ _ _ dX5_digestIslands_58 h hz
    · replace h := ite_f c4 h
      refine lv_iconst (v := (0 : Int32)) hx hb dX5_digestIslands_20 (by decide) ?_
      refine lv_istore (lv' := [(6, .int (0 : Int32)), (0, .ref (a 0)), (3, .long y3), (5, .int y5)]) hx hb dX5_digestIslands_21 hl (by decide) rfl (fun ls hl => ?_)
      exact l23 k5 hk5 FU y3 y5 (0 : Int32) _ _ _ h hz (lv_sub hl [1, 2, 3, 0] rfl)
  have l5 : ∀  (n : Nat), ∀ (y3 : Int64) (y5 : Int32) (H : Heap) (locs : List Loc) (ls : Array Slot), fX5_digestIslands_l5 σ  n y3 y5 = some r → zz (dC, dI) 30 a (wdC cI cZ a σ) s.heap H locs → lv_has ls 7 [(0, .ref (a 0)), (3, .long y3), (5, .int y5)] → W p l e rmX5_digestIslands s m args below meth c H locs 0 0 Q (F0 m 5 ls []) := by
    intro  n
    induction n with
    | zero => intro y3 y5 H locs ls h; exact nomatch h
    | succ n ih => exact s5  (fX5_digestIslands_l5 σ  n) ih
  unfold fX5_digestIslands at h
  refine lv_lload_n hx hb dX5_digestIslands_0 rfl (lv_at hl 1 rfl) ?_
  refine lv_lstore_n (lv' := [(3, .long x1), (0, .ref (a 0)), (1, .long x1)]) hx hb dX5_digestIslands_1 rfl hl (by decide) rfl (fun ls hl => ?_)
  refine lv_iconst (v := (0 : Int32)) hx hb dX5_digestIslands_2 (by decide) ?_
  refine lv_istore (lv' := [(5, .int (0 : Int32)), (3, .long x1), (0, .ref (a 0)), (1, .long x1)]) hx hb dX5_digestIslands_3 hl (by decide) rfl (fun ls hl => ?_)
  exact l5  FU x1 (0 : Int32) _ _ _ h hz (lv_sub hl [2, 1, 0] rfl)
def fX5_digestConstants_s23 (σ : St) (k5 : Int64 → Int32 → Option (Int64)) (k23 : Int64 → Int32 → Int32 → Option (Int64)) (y3 : Int64) (y5 : Int32) (y6 : Int32) : Option (Int64) :=
  (if (4 : Int32) ≤ y6 then (k5 y3 (y5 + (1 : Int32))) else ((bd1 (fX5_constant σ y5 y6) fun r6 => k23 (((31 : Int64) * y3) + (Int32.toInt64 r6)) y5 (y6 + (1 : Int32)))))
def fX5_digestConstants_l23 (σ : St) (k5 : Int64 → Int32 → Option (Int64)) : Nat → Int64 → Int32 → Int32 → Option (Int64) :=
  itr (fX5_digestConstants_s23 σ k5) (fun _ _ _ => none)
def fX5_digestConstants_s5 (σ : St) (k5 : Int64 → Int32 → Option (Int64)) (y3 : Int64) (y5 : Int32) : Option (Int64) :=
  (bd1 (fX4_size_c σ ) fun r1 => (if r1 ≤ y5 then (some y3) else (fX5_digestConstants_l23 σ k5 FU y3 y5 (0 : Int32))))
def fX5_digestConstants_l5 (σ : St)  : Nat → Int64 → Int32 → Option (Int64) :=
  itr (fX5_digestConstants_s5 σ ) (fun _ _ => none)
def fX5_digestConstants (σ : St) (x1 : Int64) : Option (Int64) :=
  fX5_digestConstants_l5 σ  FU x1 (0 : Int32)
abbrev rmX5_digestConstants : Room := { frames := 4, cells := 0, slots := 0, locals := 90 }
set_option maxHeartbeats 4000000 in
set_option maxRecDepth 100000 in
theorem KX5_digestConstants {l : Launch} {dC : Nat → ClassId} {dI : Nat → Nat → Nat} {cI cZ : ClassId} {a : Nat → Nat} {σ : St} {x1 : Int64} {r : Int64} (hok : okA 30 a) (h : fX5_digestConstants σ x1 = some r) (sz : Nat) : Met l yX5_digestConstants wsX5_digestConstants rmX5_digestConstants (Pz (dC, dI) cI cZ (wdC cI cZ a σ) sz [.ref (a 0), .long x1]) (Qzl (dC, dI) 30 a (wdC cI cZ a σ) sz r) 0 0 (aN 30 a sz) := by
  refine Met.ofW (cc := cX5_digestConstants) (maxL := 7) (ret := (some .long)) (by decide) rfl ?_
  intro p e s m args below meth c s₁ B hml hv
  obtain ⟨hav, hsz, hP, hKK⟩ := hv
  have hx := B.exec
  have hb := B.bytes
  have hr := B.returns
  have hts := atoms_spec (ws := wsX5_digestConstants) B.pre
  have hown : s.vm.findClass RX5 = some m.cls := findClass_of_methodNamed B.named
  have hlocks := B.notSynchronized
  have CF : CallFix p m c cX5_digestConstants 7 s args wsX5_digestConstants RX5 := ⟨hx, hb, hml, hown, hts⟩
  have hz : zz (dC, dI) 30 a (wdC cI cZ a σ) s.heap s.heap [] := ⟨hP, va_S.rf⟩
  have hl := lv_entry [.ref (a 0), .long x1] (n := 7) (Nat.le_of_ble_eq_true rfl)
  have hen : entryFrame m args 7 = entryFrame m ([.ref (a 0), .long x1] : List Value).toArray 7 := by rw [hav]
  rw [hen, lg_entry_eq]
  generalize (lg_sl [.ref (a 0), .long x1] ++ List.replicate (7 - (lg_sl [.ref (a 0), .long x1]).length) Slot.unset).toArray = ls at hl ⊢
  have hl : lv_has ls 7 [(0, .ref (a 0)), (1, .long x1)] := hl
  have eR : (headSpec wsX5_digestConstants rmX5_digestConstants).room = rmX5_digestConstants := rfl
  rw [eR]
  have rt : ∀ (v : Int64) (t : St) (pc : Nat) (H : Heap) (locs : List Loc) (ls : Array Slot), decode cX5_digestConstants pc = .ok (.lreturn, 1) → some v = some r → zz (dC, dI) 30 a (wdC cI cZ a σ) s.heap H locs → W p l e rmX5_digestConstants s m args below meth c H locs 0 0 (MQ below (Qzl (dC, dI) 30 a (wdC cI cZ a σ) sz r) args s 0 0 (aN 30 a sz)) (F0 m pc ls [.long v]) := by
    intro v t pc H locs ls hd h hz
    cases h
    exact zlret hsz hx hb hr hlocks hz hd
  generalize (MQ below (Qzl (dC, dI) 30 a (wdC cI cZ a σ) sz r) args s 0 0 (aN 30 a sz)) = Q at rt ⊢
  have s23 : ∀ (k5 : Int64 → Int32 → Option (Int64)) (hk5 : (∀ (y3 : Int64) (y5 : Int32) (H : Heap) (locs : List Loc) (ls : Array Slot), k5 y3 y5 = some r → zz (dC, dI) 30 a (wdC cI cZ a σ) s.heap H locs → lv_has ls 7 [(0, .ref (a 0)), (3, .long y3), (5, .int y5)] → W p l e rmX5_digestConstants s m args below meth c H locs 0 0 Q (F0 m 5 ls []))) (k23 : Int64 → Int32 → Int32 → Option (Int64)) (hk23 : (∀ (y3 : Int64) (y5 : Int32) (y6 : Int32) (H : Heap) (locs : List Loc) (ls : Array Slot), k23 y3 y5 y6 = some r → zz (dC, dI) 30 a (wdC cI cZ a σ) s.heap H locs → lv_has ls 7 [(0, .ref (a 0)), (3, .long y3), (5, .int y5), (6, .int y6)] → W p l e rmX5_digestConstants s m args below meth c H locs 0 0 Q (F0 m 23 ls []))) (y3 : Int64) (y5 : Int32) (y6 : Int32) (H : Heap) (locs : List Loc) (ls : Array Slot), fX5_digestConstants_s23 σ k5 k23 y3 y5 y6 = some r → zz (dC, dI) 30 a (wdC cI cZ a σ) s.heap H locs → lv_has ls 7 [(0, .ref (a 0)), (3, .long y3), (5, .int y5), (6, .int y6)] → W p l e rmX5_digestConstants s m args below meth c H locs 0 0 Q (F0 m 23 ls []) := by
    intro k5 hk5 k23 hk23 y3 y5 y6 H locs ls h hz hl
    unfold fX5_digestConstants_s23 at h
    refine lv_iload hx hb dX5_digestConstants_23 (lv_at hl 3 rfl) ?_
    refine lv_iconst (v := (4 : Int32)) hx hb dX5_digestConstants_25 (by decide) ?_
    refine lv_icmp_ge (tgt := 51) hx hb dX5_digestConstants_26 (by decide) (fun c5 => ?_) (fun c5 => ?_)
    · replace h := ite_t c5 h
      refine lv_iinc (v := (y5 + (1 : Int32))) (lv' := [(5, .int (y5 + (1 : Int32))), (0, .ref (a 0)), (3, .long y3), (6, .int y6)]) hx hb dX5_digestConstants_51 hl (k := 2) rfl rfl (by decide) rfl (fun ls hl => ?_)
      refine lv_goto (tgt := 5) hx hb dX5_digestConstants_54 (by decide) ?_
      exact hk5 y3 (y5 + (1 : Int32)) _ _ _ h hz (lv_sub hl [1, 2, 0] rfl)
    · replace h := ite_f c5 h
      refine lv_ldc2 (v := (31 : Int64)) hx hb hown (hts _ (List.mem_of_getElem? (i := 2) rfl)) dX5_digestConstants_29 ?_
      refine lv_lload_n hx hb dX5_digestConstants_32 rfl (lv_at hl 1 rfl) ?_
      refine lv_lmul hx hb dX5_digestConstants_33 ?_
      refine lv_aload_n hx hb dX5_digestConstants_34 rfl (lv_at hl 0 rfl) ?_
      refine lv_iload hx hb dX5_digestConstants_35 (lv_at hl 2 rfl) ?_
      refine lv_iload hx hb dX5_digestConstants_37 (lv_at hl 3 rfl) ?_
      obtain ⟨r6, e8, h⟩ := bd1_e h
      refine zcallVi (As := [.int y5, .int y6]) (rest := [.long ((31 : Int64) * y3)]) CF hKK (KX5_constant (dC := dC) (dI := dI) (cI := cI) (cZ := cZ) (a := a) hok e8) (cwV 2 hts gX5_digestConstants_X5_constant rfl rfl rfl cdX5_constant ⟨Nat.le_of_ble_eq_true rfl, Nat.le_of_ble_eq_true rfl⟩) 0 5 rfl rfl hz rfl hl.1 rfl (Nat.le_of_ble_eq_true rfl) dX5_digestConstants_39 ⟨Nat.le_refl _, Nat.le_refl _⟩ (fun H locs hz => ?_)
      refine lv_i2l (v := (Int32.toInt64 r6)) hx hb dX5_digestConstants_42 rfl ?_
      refine lv_ladd hx hb dX5_digestConstants_43 ?_
      refine lv_lstore_n (lv' := [(3, .long (((31 : Int64) * y3) + (Int32.toInt64 r6))), (0, .ref (a 0)), (5, .int y5), (6, .int y6)]) hx hb dX5_digestConstants_44 rfl hl (by decide) rfl (fun ls hl => ?_)
      refine lv_iinc (v := (y6 + (1 : Int32))) (lv' := [(6, .int (y6 + (1 : Int32))), (3, .long (((31 : Int64) * y3) + (Int32.toInt64 r6))), (0, .ref (a 0)), (5, .int y5)]) hx hb dX5_digestConstants_45 hl (k := 3) rfl rfl (by decide) rfl (fun ls hl => ?_)
      refine lv_goto (tgt := 23) hx hb dX5_digestConstants_48 (by decide) ?_
      exact hk23 (((31 : Int64) * y3) + (Int32.toInt64 r6)) y5 (y6 + (1 : Int32)) _ _ _ h hz (lv_sub hl [2, 1, 3, 0] rfl)
  have l23 : ∀ (k5 : Int64 → Int32 → Option (Int64)) (hk5 : (∀ (y3 : Int64) (y5 : Int32) (H : Heap) (locs : List Loc) (ls : Array Slot), k5 y3 y5 = some r → zz (dC, dI) 30 a (wdC cI cZ a σ) s.heap H locs → lv_has ls 7 [(0, .ref (a 0)), (3, .long y3), (5, .int y5)] → W p l e rmX5_digestConstants s m args below meth c H locs 0 0 Q (F0 m 5 ls []))) (n : Nat), ∀ (y3 : Int64) (y5 : Int32) (y6 : Int32) (H : Heap) (locs : List Loc) (ls : Array Slot), fX5_digestConstants_l23 σ k5 n y3 y5 y6 = some r → zz (dC, dI) 30 a (wdC cI cZ a σ) s.heap H locs → lv_has ls 7 [(0, .ref (a 0)), (3, .long y3), (5, .int y5), (6, .int y6)] → W p l e rmX5_digestConstants s m args below meth c H locs 0 0 Q (F0 m 23 ls []) := by
    intro k5 hk5 n
    induction n with
    | zero => intro y3 y5 y6 H locs ls h; exact nomatch h
    | succ n ih => exact s23 k5 hk5 (fX5_digestConstants_l23 σ k5 n) ih
  have s5 : ∀ (k5 : Int64 → Int32 → Option (Int64)) (hk5 : (∀ (y3 : Int64) (y5 : Int32) (H : Heap) (locs : List Loc) (ls : Array Slot), k5 y3 y5 = some r → zz (dC, dI) 30 a (wdC cI cZ a σ) s.heap H locs → lv_has ls 7 [(0, .ref (a 0)), (3, .long y3), (5, .int y5)] → W p l e rmX5_digestConstants s m args below meth c H locs 0 0 Q (F0 m 5 ls []))) (y3 : Int64) (y5 : Int32) (H : Heap) (locs : List Loc) (ls : Array Slot), fX5_digestConstants_s5 σ k5 y3 y5 = some r → zz (dC, dI) 30 a (wdC cI cZ a σ) s.heap H locs → lv_has ls 7 [(0, .ref (a 0)), (3, .long y3), (5, .int y5)] → W p l e rmX5_digestConstants s m args below meth c H locs 0 0 Q (F0 m 5 ls []) := by
    intro k5 hk5 y3 y5 H locs ls h hz hl
    unfold fX5_digestConstants_s5 at h
    refine lv_iload hx hb dX5_digestConstants_5 (lv_at hl 2 rfl) ?_
    refine lv_aload_n hx hb dX5_digestConstants_7 rfl (lv_at hl 0 rfl) ?_
    refine va_get (v := .ref (a 11)) hx hb hts inX5_digestConstants_X5 hown hKK.1 hz.1 0 rfl rfl 4 (by decide) (hts _ (List.mem_of_getElem? (i := 1) rfl)) (fun _ h9 => h9) rfl dX5_digestConstants_8 ?_
    refine va_getN (v := .ref (a 18)) hx hb hts inX5_digestConstants_X2 hown hKK.1 hz.1 11 rfl rfl 3 (by decide) (va_Nw.use rfl hKK.2.2.2.2.2.2.2.1) (fun _ h9 => h9) rfl dX5_digestConstants_11 ?_
    obtain ⟨r1, e3, h⟩ := bd1_e h
    refine zcallVi (As := []) (rest := [.int y5]) CF hKK (KX4_size_c (dC := dC) (dI := dI) (cI := cI) (cZ := cZ) (a := a) hok e3) (cwV 0 hts gX5_digestConstants_X4_size rfl rfl rfl cdX4_size ⟨Nat.le_of_ble_eq_true rfl, Nat.le_of_ble_eq_true rfl⟩) 18 4 rfl rfl hz rfl hl.1 rfl (Nat.le_of_ble_eq_true rfl) dX5_digestConstants_14 ⟨Nat.le_refl _, Nat.le_refl _⟩ (fun H locs hz => ?_)
    refine lv_icmp_ge (tgt := 57) hx hb dX5_digestConstants_17 (by decide) (fun c4 => ?_) (fun c4 => ?_)
    · replace h := ite_t c4 h
      refine lv_lload_n hx hb dX5_digestConstants_57 rfl (lv_at hl 1 rfl) ?_
      exact rt y3 σ 58 _ _ _ dX5_digestConstants_58 h hz
    · replace h := ite_f c4 h
      refine lv_iconst (v := (0 : Int32)) hx hb dX5_digestConstants_20 (by decide) ?_
      refine lv_istore (lv' := [(6, .int (0 : Int32)), (0, .ref (a 0)), (3, .long y3), (5, .int y5)]) hx hb dX5_digestConstants_21 hl (by decide) rfl (fun ls hl => ?_)
      exact l23 k5 hk5 FU y3 y5 (0 : Int32) _ _ _ h hz (lv_sub hl [1, 2, 3, 0] rfl)
  have l5 : ∀  (n : Nat), ∀ (y3 : Int64) (y5 : Int32) (H : Heap) (locs : List Loc) (ls : Array Slot), fX5_digestConstants_l5 σ  n y3 y5 = some r → zz (dC, dI) 30 a (wdC cI cZ a σ) s.heap H locs → lv_has ls 7 [(0, .ref (a 0)), (3, .long y3), (5, .int y5)] → W p l e rmX5_digestConstants s m args below meth c H locs 0 0 Q (F0 m 5 ls []) := by
    intro  n
    induction n with
    | zero => intro y3 y5 H locs ls h; exact nomatch h
    | succ n ih => exact s5  (fX5_digestConstants_l5 σ  n) ih
  unfold fX5_digestConstants at h
  refine lv_lload_n hx hb dX5_digestConstants_0 rfl (lv_at hl 1 rfl) ?_
  refine lv_lstore_n (lv' := [(3, .long x1), (0, .ref (a 0)), (1, .long x1)]) hx hb dX5_digestConstants_1 rfl hl (by decide) rfl (fun ls hl => ?_)
  refine lv_iconst (v := (0 : Int32)) hx hb dX5_digestConstants_2 (by decide) ?_
  refine lv_istore (lv' := [(5, .int (0 : Int32)), (3, .long x1), (0, .ref (a 0)), (1, .long x1)]) hx hb dX5_digestConstants_3 hl (by decide) rfl (fun ls hl => ?_)
  exact l5  FU x1 (0 : Int32) _ _ _ h hz (lv_sub hl [2, 1, 0] rfl)
