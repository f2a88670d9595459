def fX4_endOf_i (σ : St) (x1 : Int32) : Option (Int32) :=
  (bd1 (fX4_isItem σ x1) fun r1 => (if r1 = 0 then (some (-1 : Int32)) else ((ck (¬ (x1 < 0 ∨ 24 ≤ Int32.toNatClampNeg x1)) <| (ck (¬ (x1 < 0 ∨ 24 ≤ Int32.toNatClampNeg x1)) <| some (((σ 17) (Int32.toNatClampNeg x1)) + ((4 : Int32) * ((σ 16) (Int32.toNatClampNeg x1)))))))))
abbrev rmX4_endOf_i : Room := { frames := 1, cells := 0, slots := 0, locals := 20 }
set_option maxHeartbeats 4000000 in
set_option maxRecDepth 100000 in
theorem KX4_endOf_i {l : Launch} {dC : Nat → ClassId} {dI : Nat → Nat → Nat} {cI cZ : ClassId} {a : Nat → Nat} {σ : St} {x1 : Int32} {r : Int32} (hok : okA 30 a) (h : fX4_endOf_i σ x1 = some r) (sz : Nat) : Met l yX4_endOf wsX4_endOf rmX4_endOf_i (Pz (dC, dI) cI cZ (wdC cI cZ a σ) sz [.ref (a 12), .int x1]) (Qzi (dC, dI) 30 a (wdC cI cZ a σ) sz r) 0 0 (aN 30 a sz) := by
  refine Met.ofW (cc := cX4_endOf) (maxL := 2) (ret := (some .int)) (by decide) rfl ?_
  intro p e s m args below meth c s₁ B hml hv
  obtain ⟨hav, hsz, hP, hKK⟩ := hv
  have hx := B.exec
  have hb := B.bytes
  have hr := B.returns
  have hts := atoms_spec (ws := wsX4_endOf) B.pre
  have hown : s.vm.findClass RX4 = some m.cls := findClass_of_methodNamed B.named
  have hlocks := B.notSynchronized
  have CF : CallFix p m c cX4_endOf 2 s args wsX4_endOf RX4 := ⟨hx, hb, hml, hown, hts⟩
  have hz : zz (dC, dI) 30 a (wdC cI cZ a σ) s.heap s.heap [] := ⟨hP, va_S.rf⟩
  have hl := lv_entry [.ref (a 12), .int x1] (n := 2) (Nat.le_of_ble_eq_true rfl)
  have hen : entryFrame m args 2 = entryFrame m ([.ref (a 12), .int x1] : List Value).toArray 2 := by rw [hav]
  rw [hen, lg_entry_eq]
  generalize (lg_sl [.ref (a 12), .int x1] ++ List.replicate (2 - (lg_sl [.ref (a 12), .int x1]).length) Slot.unset).toArray = ls at hl ⊢
  have hl : lv_has ls 2 [(0, .ref (a 12)), (1, .int x1)] := hl
  have eR : (headSpec wsX4_endOf rmX4_endOf_i).room = rmX4_endOf_i := rfl
  rw [eR]
  have rt : ∀ (v : Int32) (t : St) (pc : Nat) (H : Heap) (locs : List Loc) (ls : Array Slot), decode cX4_endOf pc = .ok (.ireturn, 1) → some v = some r → zz (dC, dI) 30 a (wdC cI cZ a σ) s.heap H locs → W p l e rmX4_endOf_i s m args below meth c H locs 0 0 (MQ below (Qzi (dC, dI) 30 a (wdC cI cZ a σ) sz r) args s 0 0 (aN 30 a sz)) (F0 m pc ls [.int v]) := by
    intro v t pc H locs ls hd h hz
    cases h
    exact ziret hsz hx hb hr hlocks hz hd
  generalize (MQ below (Qzi (dC, dI) 30 a (wdC cI cZ a σ) sz r) args s 0 0 (aN 30 a sz)) = Q at rt ⊢
  unfold fX4_endOf_i at h
  refine lv_iload_n hx hb dX4_endOf_0 rfl (lv_at hl 1 rfl) ?_
  obtain ⟨r1, e3, h⟩ := bd1_e h
  refine zcallSi (As := [.int x1]) (rest := []) CF hKK (KX4_isItem (dC := dC) (dI := dI) (cI := cI) (cZ := cZ) (a := a) hok e3) (va_cwS 1 hts gX4_endOf_X4_isItem rfl rfl rfl cdX4_isItem.2 ⟨Nat.le_of_ble_eq_true rfl, Nat.le_of_ble_eq_true rfl⟩) hz rfl hl.1 rfl (Nat.le_of_ble_eq_true rfl) dX4_endOf_1 ⟨Nat.le_refl _, Nat.le_refl _⟩ (fun H locs hz => ?_)
  refine lv_if_eq (tgt := 25) hx hb dX4_endOf_4 (by decide) (fun c4 => ?_) (fun c4 => ?_)
  · replace h := ite_t c4 h
    refine lv_iconst (v := (-1 : Int32)) hx hb dX4_endOf_25 (by decide) ?_
    exact rt (-1 : Int32) σ 26 _ _ _ dX4_endOf_26 h hz
  · replace h := ite_f c4 h
    refine lv_aload_n hx hb dX4_endOf_7 rfl (lv_at hl 0 rfl) ?_
    refine va_get (v := .ref (a 17)) hx hb hts inX4_endOf_X4 hown hKK.1 hz.1 12 rfl rfl 4 (by decide) (hts _ (List.mem_of_getElem? (i := 1) rfl)) (fun _ h9 => h9) rfl dX4_endOf_8 ?_
    refine lv_iload_n hx hb dX4_endOf_11 rfl (lv_at hl 1 rfl) ?_
    obtain ⟨c5, h⟩ := ck_e h
    refine va_iald (f := (σ 17)) hx hb hKK.1 hz.1 17 0 rfl rfl c5 dX4_endOf_12 ?_
    refine lv_iconst (v := (4 : Int32)) hx hb dX4_endOf_13 (by decide) ?_
    refine lv_aload_n hx hb dX4_endOf_14 rfl (lv_at hl 0 rfl) ?_
    refine va_get (v := .ref (a 16)) hx hb hts inX4_endOf_X4 hown hKK.1 hz.1 12 rfl rfl 3 (by decide) (hts _ (List.mem_of_getElem? (i := 2) rfl)) (fun _ h9 => h9) rfl dX4_endOf_15 ?_
    refine lv_iload_n hx hb dX4_endOf_18 rfl (lv_at hl 1 rfl) ?_
    obtain ⟨c6, h⟩ := ck_e h
    refine va_iald (f := (σ 16)) hx hb hKK.1 hz.1 16 0 rfl rfl c6 dX4_endOf_19 ?_
    refine lv_imul hx hb dX4_endOf_20 ?_
    refine lv_iadd hx hb dX4_endOf_21 ?_
    refine lv_goto (tgt := 26) hx hb dX4_endOf_22 (by decide) ?_
    exact rt (((σ 17) (Int32.toNatClampNeg x1)) + ((4 : Int32) * ((σ 16) (Int32.toNatClampNeg x1)))) σ 26 _ _ _ dX4_endOf_26 h hz
def fX4_endOf_c (σ : St) (x1 : Int32) : Option (Int32) :=
  (bd1 (fX4_isItem σ x1) fun r1 => (if r1 = 0 then (some (-1 : Int32)) else ((ck (¬ (x1 < 0 ∨ 24 ≤ Int32.toNatClampNeg x1)) <| (ck (¬ (x1 < 0 ∨ 24 ≤ Int32.toNatClampNeg x1)) <| some (((σ 23) (Int32.toNatClampNeg x1)) + ((4 : Int32) * ((σ 22) (Int32.toNatClampNeg x1)))))))))
abbrev rmX4_endOf_c : Room := { frames := 1, cells := 0, slots := 0, locals := 20 }
set_option maxHeartbeats 4000000 in
set_option maxRecDepth 100000 in
theorem KX4_endOf_c {l : Launch} {dC : Nat → ClassId} {dI : Nat → Nat → Nat} {cI cZ : ClassId} {a : Nat → Nat} {σ : St} {x1 : Int32} {r : Int32} (hok : okA 30 a) (h : fX4_endOf_c σ x1 = some r) (sz : Nat) : Met l yX4_endOf wsX4_endOf rmX4_endOf_c (Pz (dC, dI) cI cZ (wdC cI cZ a σ) sz [.ref (a 18), .int x1]) (Qzi (dC, dI) 30 a (wdC cI cZ a σ) sz r) 0 0 (aN 30 a sz) := by
  refine Met.ofW (cc := cX4_endOf) (maxL := 2) (ret := (some .int)) (by decide) rfl ?_
  intro p e s m args below meth c s₁ B hml hv
  obtain ⟨hav, hsz, hP, hKK⟩ := hv
  have hx := B.exec
  have hb := B.bytes
  have hr := B.returns
  have hts := atoms_spec (ws := wsX4_endOf) B.pre
  have hown : s.vm.findClass RX4 = some m.cls := findClass_of_methodNamed B.named
  have hlocks := B.notSynchronized
  have CF : CallFix p m c cX4_endOf 2 s args wsX4_endOf RX4 := ⟨hx, hb, hml, hown, hts⟩
  have hz : zz (dC, dI) 30 a (wdC cI cZ a σ) s.heap s.heap [] := ⟨hP, va_S.rf⟩
  have hl := lv_entry [.ref (a 18), .int x1] (n := 2) (Nat.le_of_ble_eq_true rfl)
  have hen : entryFrame m args 2 = entryFrame m ([.ref (a 18), .int x1] : List Value).toArray 2 := by rw [hav]
  rw [hen, lg_entry_eq]
  generalize (lg_sl [.ref (a 18), .int x1] ++ List.replicate (2 - (lg_sl [.ref (a 18), .int x1]).length) Slot.unset).toArray = ls at hl ⊢
  have hl : lv_has ls 2 [(0, .ref (a 18)), (1, .int x1)] := hl
  have eR : (headSpec wsX4_endOf rmX4_endOf_c).room = rmX4_endOf_c := rfl
  rw [eR]
  have rt : ∀ (v : Int32) (t : St) (pc : Nat) (H : Heap) (locs : List Loc) (ls : Array Slot), decode cX4_endOf pc = .ok (.ireturn, 1) → some v = some r → zz (dC, dI) 30 a (wdC cI cZ a σ) s.heap H locs → W p l e rmX4_endOf_c s m args below meth c H locs 0 0 (MQ below (Qzi (dC, dI) 30 a (wdC cI cZ a σ) sz r) args s 0 0 (aN 30 a sz)) (F0 m pc ls [.int v]) := by
    intro v t pc H locs ls hd h hz
    cases h
    exact ziret hsz hx hb hr hlocks hz hd
  generalize (MQ below (Qzi (dC, dI) 30 a (wdC cI cZ a σ) sz r) args s 0 0 (aN 30 a sz)) = Q at rt ⊢
  unfold fX4_endOf_c at h
  refine lv_iload_n hx hb dX4_endOf_0 rfl (lv_at hl 1 rfl) ?_
  obtain ⟨r1, e3, h⟩ := bd1_e h
  refine zcallSi (As := [.int x1]) (rest := []) CF hKK (KX4_isItem (dC := dC) (dI := dI) (cI := cI) (cZ := cZ) (a := a) hok e3) (va_cwS 1 hts gX4_endOf_X4_isItem rfl rfl rfl cdX4_isItem.2 ⟨Nat.le_of_ble_eq_true rfl, Nat.le_of_ble_eq_true rfl⟩) hz rfl hl.1 rfl (Nat.le_of_ble_eq_true rfl) dX4_endOf_1 ⟨Nat.le_refl _, Nat.le_refl _⟩ (fun H locs hz => ?_)
  refine lv_if_eq (tgt := 25) hx hb dX4_endOf_4 (by decide) (fun c4 => ?_) (fun c4 => ?_)
  · replace h := ite_t c4 h
    refine lv_iconst (v := (-1 : Int32)) hx hb dX4_endOf_25 (by decide) ?_
    exact rt (-1 : Int32) σ 26 _ _ _ dX4_endOf_26 h hz
  · replace h := ite_f c4 h
    refine lv_aload_n hx hb dX4_endOf_7 rfl (lv_at hl 0 rfl) ?_
    refine va_get (v := .ref (a 23)) hx hb hts inX4_endOf_X4 hown hKK.1 hz.1 18 rfl rfl 4 (by decide) (hts _ (List.mem_of_getElem? (i := 1) rfl)) (fun _ h9 => h9) rfl dX4_endOf_8 ?_
    refine lv_iload_n hx hb dX4_endOf_11 rfl (lv_at hl 1 rfl) ?_
    obtain ⟨c5, h⟩ := ck_e h
    refine va_iald (f := (σ 23)) hx hb hKK.1 hz.1 23 0 rfl rfl c5 dX4_endOf_12 ?_
    refine lv_iconst (v := (4 : Int32)) hx hb dX4_endOf_13 (by decide) ?_
    refine lv_aload_n hx hb dX4_endOf_14 rfl (lv_at hl 0 rfl) ?_
    refine va_get (v := .ref (a 22)) hx hb hts inX4_endOf_X4 hown hKK.1 hz.1 18 rfl rfl 3 (by decide) (hts _ (List.mem_of_getElem? (i := 2) rfl)) (fun _ h9 => h9) rfl dX4_endOf_15 ?_
    refine lv_iload_n hx hb dX4_endOf_18 rfl (lv_at hl 1 rfl) ?_
    obtain ⟨c6, h⟩ := ck_e h
    refine va_iald (f := (σ 22)) hx hb hKK.1 hz.1 22 0 rfl rfl c6 dX4_endOf_19 ?_
    refine lv_imul hx hb dX4_endOf_20 ?_
    refine lv_iadd hx hb dX4_endOf_21 ?_
    refine lv_goto (tgt := 26) hx hb dX4_endOf_22 (by decide) ?_
    exact rt (((σ 23) (Int32.toNatClampNeg x1)) + ((4 : Int32) * ((σ 22) (Int32.toNatClampNeg x1)))) σ 26 _ _ _ dX4_endOf_26 h hz
def fX2_nextConstantIn (σ : St) (x1 : Int32) : Option (Int32) :=
  (bd1 (fX4_endOf_c σ x1) fun r1 => (bd1 (fX5_fillTo σ (4 : Int32) r1) fun r4 => some (r1 + r4)))
abbrev rmX2_nextConstantIn : Room := { frames := 2, cells := 0, slots := 0, locals := 41 }
set_option maxHeartbeats 4000000 in
set_option maxRecDepth 100000 in
theorem KX2_nextConstantIn {l : Launch} {dC : Nat → ClassId} {dI : Nat → Nat → Nat} {cI cZ : ClassId} {a : Nat → Nat} {σ : St} {x1 : Int32} {r : Int32} (hok : okA 30 a) (h : fX2_nextConstantIn σ x1 = some r) (sz : Nat) : Met l yX2_nextConstantIn wsX2_nextConstantIn rmX2_nextConstantIn (Pz (dC, dI) cI cZ (wdC cI cZ a σ) sz [.ref (a 11), .int x1]) (Qzi (dC, dI) 30 a (wdC cI cZ a σ) sz r) 0 0 (aN 30 a sz) := by
  refine Met.ofW (cc := cX2_nextConstantIn) (maxL := 3) (ret := (some .int)) (by decide) rfl ?_
  intro p e s m args below meth c s₁ B hml hv
  obtain ⟨hav, hsz, hP, hKK⟩ := hv
  have hx := B.exec
  have hb := B.bytes
  have hr := B.returns
  have hts := atoms_spec (ws := wsX2_nextConstantIn) B.pre
  have hown : s.vm.findClass RX2 = some m.cls := findClass_of_methodNamed B.named
  have hlocks := B.notSynchronized
  have CF : CallFix p m c cX2_nextConstantIn 3 s args wsX2_nextConstantIn RX2 := ⟨hx, hb, hml, hown, hts⟩
  have hz : zz (dC, dI) 30 a (wdC cI cZ a σ) s.heap s.heap [] := ⟨hP, va_S.rf⟩
  have hl := lv_entry [.ref (a 11), .int x1] (n := 3) (Nat.le_of_ble_eq_true rfl)
  have hen : entryFrame m args 3 = entryFrame m ([.ref (a 11), .int x1] : List Value).toArray 3 := by rw [hav]
  rw [hen, lg_entry_eq]
  generalize (lg_sl [.ref (a 11), .int x1] ++ List.replicate (3 - (lg_sl [.ref (a 11), .int x1]).length) Slot.unset).toArray = ls at hl ⊢
  have hl : lv_has ls 3 [(0, .ref (a 11)), (1, .int x1)] := hl
  have eR : (headSpec wsX2_nextConstantIn rmX2_nextConstantIn).room = rmX2_nextConstantIn := rfl
  rw [eR]
  have rt : ∀ (v : Int32) (t : St) (pc : Nat) (H : Heap) (locs : List Loc) (ls : Array Slot), decode cX2_nextConstantIn pc = .ok (.ireturn, 1) → some v = some r → zz (dC, dI) 30 a (wdC cI cZ a σ) s.heap H locs → W p l e rmX2_nextConstantIn s m args below meth c H locs 0 0 (MQ below (Qzi (dC, dI) 30 a (wdC cI cZ a σ) sz r) args s 0 0 (aN 30 a sz)) (F0 m pc ls [.int v]) := by
    intro v t pc H locs ls hd h hz
    cases h
    exact ziret hsz hx hb hr hlocks hz hd
  generalize (MQ below (Qzi (dC, dI) 30 a (wdC cI cZ a σ) sz r) args s 0 0 (aN 30 a sz)) = Q at rt ⊢
  unfold fX2_nextConstantIn at h
  refine lv_aload_n hx hb dX2_nextConstantIn_0 rfl (lv_at hl 0 rfl) ?_
  refine va_get (v := .ref (a 18)) hx hb hts inX2_nextConstantIn_X2 hown hKK.1 hz.1 11 rfl rfl 3 (by decide) (hts _ (List.mem_of_getElem? (i := 1) rfl)) (fun _ h9 => h9) rfl dX2_nextConstantIn_1 ?_
  refine lv_iload_n hx hb dX2_nextConstantIn_4 rfl (lv_at hl 1 rfl) ?_
  obtain ⟨r1, e3, h⟩ := bd1_e h
  refine zcallVi (As := [.int x1]) (rest := []) CF hKK (KX4_endOf_c (dC := dC) (dI := dI) (cI := cI) (cZ := cZ) (a := a) hok e3) (cwV 1 hts gX2_nextConstantIn_X4_endOf rfl rfl rfl cdX4_endOf ⟨Nat.le_of_ble_eq_true rfl, Nat.le_of_ble_eq_true rfl⟩) 18 4 rfl rfl hz rfl hl.1 rfl (Nat.le_of_ble_eq_true rfl) dX2_nextConstantIn_5 ⟨Nat.le_refl _, Nat.le_refl _⟩ (fun H locs hz => ?_)
  refine lv_istore_n (lv' := [(2, .int r1), (0, .ref (a 11)), (1, .int x1)]) hx hb dX2_nextConstantIn_8 rfl hl (by decide) rfl (fun ls hl => ?_)
  refine lv_iload_n hx hb dX2_nextConstantIn_9 rfl (lv_at hl 0 rfl) ?_
  refine lv_iconst (v := (4 : Int32)) hx hb dX2_nextConstantIn_10 (by decide) ?_
  refine lv_iload_n hx hb dX2_nextConstantIn_11 rfl (lv_at hl 0 rfl) ?_
  obtain ⟨r4, e6, h⟩ := bd1_e h
  refine zcallSNi (As := [.int (4 : Int32), .int r1]) (rest := [.int r1]) CF hKK (KX5_fillTo (dC := dC) (dI := dI) (cI := cI) (cZ := cZ) (a := a) hok e6) ⟨va_cnB 2 hts gX2_nextConstantIn_X5_fillTo_n114 rfl rfl rfl hKK.2.2.2.2.2.2.2.2.2.2.2.2.2.2.1 (hts _ (List.mem_of_getElem? (i := 13) rfl)) cdX5_fillTo.2 ⟨Nat.le_of_ble_eq_true rfl, Nat.le_of_ble_eq_true rfl⟩, hts _ (List.mem_of_getElem? (i := 12) rfl), trivial⟩ hz rfl hl.1 rfl (Nat.le_of_ble_eq_true rfl) dX2_nextConstantIn_12 ⟨Nat.le_refl _, Nat.le_refl _⟩ (fun H locs hz => ?_)
  refine lv_iadd hx hb dX2_nextConstantIn_15 ?_
  exact rt (r1 + r4) σ 16 _ _ _ dX2_nextConstantIn_16 h hz
def fX4_add_i (σ : St) (x1 : Int32) (x2 : Int32) : Option (Int32 × St) :=
  (if (σ 56 0) < 0 then (some ((0 : Int32), σ)) else ((if (12 : Int32) ≤ (σ 56 0) then (some ((0 : Int32), σ)) else ((bd1 (fX4_isItem σ x2) fun r3 => (if r3 = 0 then (some ((0 : Int32), σ)) else ((ck (¬ ((σ 56 0) < 0 ∨ 12 ≤ Int32.toNatClampNeg (σ 56 0))) <| (ck (¬ ((σ 56 0) < 0 ∨ 12 ≤ Int32.toNatClampNeg (σ 56 0))) <| (ck (¬ (x2 < 0 ∨ 24 ≤ Int32.toNatClampNeg x2)) <| (ck (¬ ((σ 56 0) < 0 ∨ 12 ≤ Int32.toNatClampNeg (σ 56 0))) <| (ck (¬ (x2 < 0 ∨ 24 ≤ Int32.toNatClampNeg x2)) <| (ck (¬ (x2 < 0 ∨ 24 ≤ Int32.toNatClampNeg x2)) <| some ((1 : Int32), (si (sa (sa (sa (sa σ 13 (Int32.toNatClampNeg (σ 56 0)) x1) 14 (Int32.toNatClampNeg (σ 56 0)) x2) 15 (Int32.toNatClampNeg (σ 56 0)) ((σ 16) (Int32.toNatClampNeg x2))) 16 (Int32.toNatClampNeg x2) (((σ 16) (Int32.toNatClampNeg x2)) + (1 : Int32))) 56 ((σ 56 0) + (1 : Int32)))))))))))))))))
abbrev rmX4_add_i : Room := { frames := 1, cells := 0, slots := 0, locals := 20 }
set_option maxHeartbeats 4000000 in
set_option maxRecDepth 100000 in
theorem KX4_add_i {l : Launch} {dC : Nat → ClassId} {dI : Nat → Nat → Nat} {cI cZ : ClassId} {a : Nat → Nat} {σ : St} {x1 : Int32} {x2 : Int32} {r : Int32} {σ2 : St} (hok : okA 30 a) (h : fX4_add_i σ x1 x2 = some (r, σ2)) (sz : Nat) : Met l yX4_add wsX4_add rmX4_add_i (Pz (dC, dI) cI cZ (wdC cI cZ a σ) sz [.ref (a 12), .int x1, .int x2]) (Qzi (dC, dI) 30 a (wdC cI cZ a σ2) sz r) 0 0 (aN 30 a sz) := by
  refine Met.ofW (cc := cX4_add) (maxL := 3) (ret := (some .boolean)) (by decide) rfl ?_
  intro p e s m args below meth c s₁ B hml hv
  obtain ⟨hav, hsz, hP, hKK⟩ := hv
  have hx := B.exec
  have hb := B.bytes
  have hr := B.returns
  have hts := atoms_spec (ws := wsX4_add) B.pre
  have hown : s.vm.findClass RX4 = some m.cls := findClass_of_methodNamed B.named
  have hlocks := B.notSynchronized
  have CF : CallFix p m c cX4_add 3 s args wsX4_add RX4 := ⟨hx, hb, hml, hown, hts⟩
  have hz : zz (dC, dI) 30 a (wdC cI cZ a σ) s.heap s.heap [] := ⟨hP, va_S.rf⟩
  have hl := lv_entry [.ref (a 12), .int x1, .int x2] (n := 3) (Nat.le_of_ble_eq_true rfl)
  have hen : entryFrame m args 3 = entryFrame m ([.ref (a 12), .int x1, .int x2] : List Value).toArray 3 := by rw [hav]
  rw [hen, lg_entry_eq]
  generalize (lg_sl [.ref (a 12), .int x1, .int x2] ++ List.replicate (3 - (lg_sl [.ref (a 12), .int x1, .int x2]).length) Slot.unset).toArray = ls at hl ⊢
  have hl : lv_has ls 3 [(0, .ref (a 12)), (1, .int x1), (2, .int x2)] := hl
  have eR : (headSpec wsX4_add rmX4_add_i).room = rmX4_add_i := rfl
  rw [eR]
  have rt : ∀ (v : Int32) (t : St) (pc : Nat) (H : Heap) (locs : List Loc) (ls : Array Slot), decode cX4_add pc = .ok (.ireturn, 1) → some (v, t) = some (r, σ2) → zz (dC, dI) 30 a (wdC cI cZ a t) s.heap H locs → (v = 0 ∨ v = 1) → W p l e rmX4_add_i s m args below meth c H locs 0 0 (MQ below (Qzi (dC, dI) 30 a (wdC cI cZ a σ2) sz r) args s 0 0 (aN 30 a sz)) (F0 m pc ls [.int v]) := by
    intro v t pc H locs ls hd h hz hv
    cases h
    exact zzret hsz hx hb hr hlocks hv hz hd
  generalize (MQ below (Qzi (dC, dI) 30 a (wdC cI cZ a σ2) sz r) args s 0 0 (aN 30 a sz)) = Q at rt ⊢
  unfold fX4_add_i at h
  refine lv_aload_n hx hb dX4_add_0 rfl (lv_at hl 0 rfl) ?_
  refine va_get (v := .int (σ 56 0)) hx hb hts inX4_add_X4 hown hKK.1 hz.1 12 rfl rfl 5 (by decide) (hts _ (List.mem_of_getElem? (i := 1) rfl)) (fun _ h9 => h9) rfl dX4_add_1 ?_
  refine lv_if_lt (tgt := 26) hx hb dX4_add_4 (by decide) (fun c1 => ?_) (fun c1 => ?_)
  · replace h := ite_t c1 h
    refine lv_iconst (v := (0 : Int32)) hx hb dX4_add_26 (by decide) ?_
    exact rt (0 : Int32) σ 27 _ _ _ dX4_add_27 h hz (Or.inl rfl)
  · replace h := ite_f c1 h
    refine lv_aload_n hx hb dX4_add_7 rfl (lv_at hl 0 rfl) ?_
    refine va_get (v := .int (σ 56 0)) hx hb hts inX4_add_X4 hown hKK.1 hz.1 12 rfl rfl 5 (by decide) (hts _ (List.mem_of_getElem? (i := 1) rfl)) (fun _ h9 => h9) rfl dX4_add_8 ?_
    refine lv_aload_n hx hb dX4_add_11 rfl (lv_at hl 0 rfl) ?_
    refine va_get (v := .ref (a 13)) hx hb hts inX4_add_X4 hown hKK.1 hz.1 12 rfl rfl 0 (by decide) (hts _ (List.mem_of_getElem? (i := 2) rfl)) (fun _ h9 => h9) rfl dX4_add_12 ?_
    refine va_alen (v := (12 : Int32)) hx hb hKK.1 hz.1 13 0 rfl rfl rfl dX4_add_15 ?_
    refine lv_icmp_ge (tgt := 26) hx hb dX4_add_16 (by decide) (fun c2 => ?_) (fun c2 => ?_)
    · replace h := ite_t c2 h
      refine lv_iconst (v := (0 : Int32)) hx hb dX4_add_26 (by decide) ?_
      exact rt (0 : Int32) σ 27 _ _ _ dX4_add_27 h hz (Or.inl rfl)
    · replace h := ite_f c2 h
      refine lv_iload_n hx hb dX4_add_19 rfl (lv_at hl 2 rfl) ?_
      obtain ⟨r3, e5, h⟩ := bd1_e h
      refine zcallSi (As := [.int x2]) (rest := []) CF hKK (KX4_isItem (dC := dC) (dI := dI) (cI := cI) (cZ := cZ) (a := a) hok e5) (va_cwS 1 hts gX4_add_X4_isItem rfl rfl rfl cdX4_isItem.2 ⟨Nat.le_of_ble_eq_true rfl, Nat.le_of_ble_eq_true rfl⟩) hz rfl hl.1 rfl (Nat.le_of_ble_eq_true rfl) dX4_add_20 ⟨Nat.le_refl _, Nat.le_refl _⟩ (fun H locs hz => ?_)
      refine lv_if_ne (tgt := 28) hx hb dX4_add_23 (by decide) (fun c6 => ?_) (fun c6 => ?_)
      · replace h := ite_f c6 h
        refine lv_aload_n hx hb dX4_add_28 rfl (lv_at hl 0 rfl) ?_
        refine va_get (v := .ref (a 13)) hx hb hts inX4_add_X4 hown hKK.1 hz.1 12 rfl rfl 0 (by decide) (hts _ (List.mem_of_getElem? (i := 2) rfl)) (fun _ h9 => h9) rfl dX4_add_29 ?_
        refine lv_aload_n hx hb dX4_add_32 rfl (lv_at hl 0 rfl) ?_
        refine va_get (v := .int (σ 56 0)) hx hb hts inX4_add_X4 hown hKK.1 hz.1 12 rfl rfl 5 (by decide) (hts _ (List.mem_of_getElem? (i := 1) rfl)) (fun _ h9 => h9) rfl dX4_add_33 ?_
        refine lv_iload_n hx hb dX4_add_36 rfl (lv_at hl 1 rfl) ?_
        obtain ⟨c7, h⟩ := ck_e h
        refine ziast (f := σ 13) (w' := wdC cI cZ a (sa σ 13 (Int32.toNatClampNeg (σ 56 0)) x1)) hx hb hKK hok wkC hz 13 rfl c7 setCa_13 dX4_add_37 (fun H locs hz => ?_)
        refine lv_aload_n hx hb dX4_add_38 rfl (lv_at hl 0 rfl) ?_
        refine va_get (v := .ref (a 14)) hx hb hts inX4_add_X4 hown hKK.1 hz.1 12 rfl rfl 1 (by decide) (hts _ (List.mem_of_getElem? (i := 3) rfl)) (fun _ h9 => h9) rfl dX4_add_39 ?_
        refine lv_aload_n hx hb dX4_add_42 rfl (lv_at hl 0 rfl) ?_
        refine va_get (v := .int (σ 56 0)) hx hb hts inX4_add_X4 hown hKK.1 hz.1 12 rfl rfl 5 (by decide) (hts _ (List.mem_of_getElem? (i := 1) rfl)) (fun _ h9 => h9) rfl dX4_add_43 ?_
        refine lv_iload_n hx hb dX4_add_46 rfl (lv_at hl 2 rfl) ?_
        obtain ⟨c8, h⟩ := ck_e h
        refine ziast (f := (sa σ 13 (Int32.toNatClampNeg (σ 56 0)) x1) 14) (w' := wdC cI cZ a (sa (sa σ 13 (Int32.toNatClampNeg (σ 56 0)) x1) 14 (Int32.toNatClampNeg (σ 56 0)) x2)) hx hb hKK hok wkC hz 14 rfl c8 setCa_14 dX4_add_47 (fun H locs hz => ?_)
        refine lv_aload_n hx hb dX4_add_48 rfl (lv_at hl 0 rfl) ?_
        refine va_get (v := .ref (a 15)) hx hb hts inX4_add_X4 hown hKK.1 hz.1 12 rfl rfl 2 (by decide) (hts _ (List.mem_of_getElem? (i := 4) rfl)) (fun _ h9 => h9) rfl dX4_add_49 ?_
        refine lv_aload_n hx hb dX4_add_52 rfl (lv_at hl 0 rfl) ?_
        refine va_get (v := .int (σ 56 0)) hx hb hts inX4_add_X4 hown hKK.1 hz.1 12 rfl rfl 5 (by decide) (hts _ (List.mem_of_getElem? (i := 1) rfl)) (fun _ h9 => h9) rfl dX4_add_53 ?_
        refine lv_aload_n hx hb dX4_add_56 rfl (lv_at hl 0 rfl) ?_
        refine va_get (v := .ref (a 16)) hx hb hts inX4_add_X4 hown hKK.1 hz.1 12 rfl rfl 3 (by decide) (hts _ (List.mem_of_getElem? (i := 5) rfl)) (fun _ h9 => h9) rfl dX4_add_57 ?_
        refine lv_iload_n hx hb dX4_add_60 rfl (lv_at hl 2 rfl) ?_
        obtain ⟨c9, h⟩ := ck_e h
        refine va_iald (f := (σ 16)) hx hb hKK.1 hz.1 16 0 rfl rfl c9 dX4_add_61 ?_
        obtain ⟨c10, h⟩ := ck_e h
        refine ziast (f := (sa (sa σ 13 (Int32.toNatClampNeg (σ 56 0)) x1) 14 (Int32.toNatClampNeg (σ 56 0)) x2) 15) (w' := wdC cI cZ a (sa (sa (sa σ 13 (Int32.toNatClampNeg (σ 56 0)) x1) 14 (Int32.toNatClampNeg (σ 56 0)) x2) 15 (Int32.toNatClampNeg (σ 56 0)) ((σ 16) (Int32.toNatClampNeg x2)))) hx hb hKK hok wkC hz 15 rfl c10 setCa_15 dX4_add_62 (fun H locs hz => ?_)
        refine lv_aload_n hx hb dX4_add_63 rfl (lv_at hl 0 rfl) ?_
        refine va_get (v := .ref (a 16)) hx hb hts inX4_add_X4 hown hKK.1 hz.1 12 rfl rfl 3 (by decide) (hts _ (List.mem_of_getElem? (i := 5) rfl)) (fun _ h9 => h9) rfl dX4_add_64 ?_
        refine lv_iload_n hx hb dX4_add_67 rfl (lv_at hl 2 rfl) ?_
        refine lv_dup2_11 hx hb dX4_add_68 rfl rfl ?_
        obtain ⟨c11, h⟩ := ck_e h
        refine va_iald (f := (σ 16)) hx hb hKK.1 hz.1 16 0 rfl rfl c11 dX4_add_69 ?_
        refine lv_iconst (v := (1 : Int32)) hx hb dX4_add_70 (by decide) ?_
        refine lv_iadd hx hb dX4_add_71 ?_
        obtain ⟨c12, h⟩ := ck_e h
        refine ziast (f := (sa (sa (sa σ 13 (Int32.toNatClampNeg (σ 56 0)) x1) 14 (Int32.toNatClampNeg (σ 56 0)) x2) 15 (Int32.toNatClampNeg (σ 56 0)) ((σ 16) (Int32.toNatClampNeg x2))) 16) (w' := wdC cI cZ a (sa (sa (sa (sa σ 13 (Int32.toNatClampNeg (σ 56 0)) x1) 14 (Int32.toNatClampNeg (σ 56 0)) x2) 15 (Int32.toNatClampNeg (σ 56 0)) ((σ 16) (Int32.toNatClampNeg x2))) 16 (Int32.toNatClampNeg x2) (((σ 16) (Int32.toNatClampNeg x2)) + (1 : Int32)))) hx hb hKK hok wkC hz 16 rfl c12 setCa_16 dX4_add_72 (fun H locs hz => ?_)
        refine lv_aload_n hx hb dX4_add_73 rfl (lv_at hl 0 rfl) ?_
        refine lv_dup hx hb dX4_add_74 rfl ?_
        refine va_get (v := .int (σ 56 0)) hx hb hts inX4_add_X4 hown hKK.1 hz.1 12 rfl rfl 5 (by decide) (hts _ (List.mem_of_getElem? (i := 1) rfl)) (fun _ h9 => h9) rfl dX4_add_75 ?_
        refine lv_iconst (v := (1 : Int32)) hx hb dX4_add_78 (by decide) ?_
        refine lv_iadd hx hb dX4_add_79 ?_
        refine zput (ty := .int) (w' := wdC cI cZ a (si (sa (sa (sa (sa σ 13 (Int32.toNatClampNeg (σ 56 0)) x1) 14 (Int32.toNatClampNeg (σ 56 0)) x2) 15 (Int32.toNatClampNeg (σ 56 0)) ((σ 16) (Int32.toNatClampNeg x2))) 16 (Int32.toNatClampNeg x2) (((σ 16) (Int32.toNatClampNeg x2)) + (1 : Int32))) 56 ((σ 56 0) + (1 : Int32)))) hx hb hts inX4_add_X4 tyX4 tyX4_ok nmX4 hown hKK hok wkC hz 12 rfl rfl 5 (by decide) (hts _ (List.mem_of_getElem? (i := 1) rfl)) (fun _ h9 => h9) rfl rfl rfl rfl (Nat.le_of_ble_eq_true rfl) setCi_56 dX4_add_80 (fun H locs hz => ?_)
        refine lv_iconst (v := (1 : Int32)) hx hb dX4_add_83 (by decide) ?_
        exact rt (1 : Int32) (si (sa (sa (sa (sa σ 13 (Int32.toNatClampNeg (σ 56 0)) x1) 14 (Int32.toNatClampNeg (σ 56 0)) x2) 15 (Int32.toNatClampNeg (σ 56 0)) ((σ 16) (Int32.toNatClampNeg x2))) 16 (Int32.toNatClampNeg x2) (((σ 16) (Int32.toNatClampNeg x2)) + (1 : Int32))) 56 ((σ 56 0) + (1 : Int32))) 84 _ _ _ dX4_add_84 h hz (Or.inr rfl)
      · replace h := ite_t c6 h
        refine lv_iconst (v := (0 : Int32)) hx hb dX4_add_26 (by decide) ?_
        exact rt (0 : Int32) σ 27 _ _ _ dX4_add_27 h hz (Or.inl rfl)
def fX4_add_c (σ : St) (x1 : Int32) (x2 : Int32) : Option (Int32 × St) :=
  (if (σ 57 0) < 0 then (some ((0 : Int32), σ)) else ((if (16 : Int32) ≤ (σ 57 0) then (some ((0 : Int32), σ)) else ((bd1 (fX4_isItem σ x2) fun r3 => (if r3 = 0 then (some ((0 : Int32), σ)) else ((ck (¬ ((σ 57 0) < 0 ∨ 16 ≤ Int32.toNatClampNeg (σ 57 0))) <| (ck (¬ ((σ 57 0) < 0 ∨ 16 ≤ Int32.toNatClampNeg (σ 57 0))) <| (ck (¬ (x2 < 0 ∨ 24 ≤ Int32.toNatClampNeg x2)) <| (ck (¬ ((σ 57 0) < 0 ∨ 16 ≤ Int32.toNatClampNeg (σ 57 0))) <| (ck (¬ (x2 < 0 ∨ 24 ≤ Int32.toNatClampNeg x2)) <| (ck (¬ (x2 < 0 ∨ 24 ≤ Int32.toNatClampNeg x2)) <| some ((1 : Int32), (si (sa (sa (sa (sa σ 19 (Int32.toNatClampNeg (σ 57 0)) x1) 20 (Int32.toNatClampNeg (σ 57 0)) x2) 21 (Int32.toNatClampNeg (σ 57 0)) ((σ 22) (Int32.toNatClampNeg x2))) 22 (Int32.toNatClampNeg x2) (((σ 22) (Int32.toNatClampNeg x2)) + (1 : Int32))) 57 ((σ 57 0) + (1 : Int32)))))))))))))))))
abbrev rmX4_add_c : Room := { frames := 1, cells := 0, slots := 0, locals := 20 }
set_option maxHeartbeats 4000000 in
set_option maxRecDepth 100000 in
theorem KX4_add_c {l : Launch} {dC : Nat → ClassId} {dI : Nat → Nat → Nat} {cI cZ : ClassId} {a : Nat → Nat} {σ : St} {x1 : Int32} {x2 : Int32} {r : Int32} {σ2 : St} (hok : okA 30 a) (h : fX4_add_c σ x1 x2 = some (r, σ2)) (sz : Nat) : Met l yX4_add wsX4_add rmX4_add_c (Pz (dC, dI) cI cZ (wdC cI cZ a σ) sz [.ref (a 18), .int x1, .int x2]) (Qzi (dC, dI) 30 a (wdC cI cZ a σ2) sz r) 0 0 (aN 30 a sz) := by
  refine Met.ofW (cc := cX4_add) (maxL := 3) (ret := (some .boolean)) (by decide) rfl ?_
  intro p e s m args below meth c s₁ B hml hv
  obtain ⟨hav, hsz, hP, hKK⟩ := hv
  have hx := B.exec
  have hb := B.bytes
  have hr := B.returns
  have hts := atoms_spec (ws := wsX4_add) B.pre
  have hown : s.vm.findClass RX4 = some m.cls := findClass_of_methodNamed B.named
  have hlocks := B.notSynchronized
  have CF : CallFix p m c cX4_add 3 s args wsX4_add RX4 := ⟨hx, hb, hml, hown, hts⟩
  have hz : zz (dC, dI) 30 a (wdC cI cZ a σ) s.heap s.heap [] := ⟨hP, va_S.rf⟩
  have hl := lv_entry [.ref (a 18), .int x1, .int x2] (n := 3) (Nat.le_of_ble_eq_true rfl)
  have hen : entryFrame m args 3 = entryFrame m ([.ref (a 18), .int x1, .int x2] : List Value).toArray 3 := by rw [hav]
  rw [hen, lg_entry_eq]
  generalize (lg_sl [.ref (a 18), .int x1, .int x2] ++ List.replicate (3 - (lg_sl [.ref (a 18), .int x1, .int x2]).length) Slot.unset).toArray = ls at hl ⊢
  have hl : lv_has ls 3 [(0, .ref (a 18)), (1, .int x1), (2, .int x2)] := hl
  have eR : (headSpec wsX4_add rmX4_add_c).room = rmX4_add_c := rfl
  rw [eR]
  have rt : ∀ (v : Int32) (t : St) (pc : Nat) (H : Heap) (locs : List Loc) (ls : Array Slot), decode cX4_add pc = .ok (.ireturn, 1) → some (v, t) = some (r, σ2) → zz (dC, dI) 30 a (wdC cI cZ a t) s.heap H locs → (v = 0 ∨ v = 1) → W p l e rmX4_add_c s m args below meth c H locs 0 0 (MQ below (Qzi (dC, dI) 30 a (wdC cI cZ a σ2) sz r) args s 0 0 (aN 30 a sz)) (F0 m pc ls [.int v]) := by
    intro v t pc H locs ls hd h hz hv
    cases h
    exact zzret hsz hx hb hr hlocks hv hz hd
  generalize (MQ below (Qzi (dC, dI) 30 a (wdC cI cZ a σ2) sz r) args s 0 0 (aN 30 a sz)) = Q at rt ⊢
  unfold fX4_add_c at h
  refine lv_aload_n hx hb dX4_add_0 rfl (lv_at hl 0 rfl) ?_
  refine va_get (v := .int (σ 57 0)) hx hb hts inX4_add_X4 hown hKK.1 hz.1 18 rfl rfl 5 (by decide) (hts _ (List.mem_of_getElem? (i := 1) rfl)) (fun _ h9 => h9) rfl dX4_add_1 ?_
  refine lv_if_lt (tgt := 26) hx hb dX4_add_4 (by decide) (fun c1 => ?_) (fun c1 => ?_)
  · replace h := ite_t c1 h
    refine lv_iconst (v := (0 : Int32)) hx hb dX4_add_26 (by decide) ?_
    exact rt (0 : Int32) σ 27 _ _ _ dX4_add_27 h hz (Or.inl rfl)
  · replace h := ite_f c1 h
    refine lv_aload_n hx hb dX4_add_7 rfl (lv_at hl 0 rfl) ?_
    refine va_get (v := .int (σ 57 0)) hx hb hts inX4_add_X4 hown hKK.1 hz.1 18 rfl rfl 5 (by decide) (hts _ (List.mem_of_getElem? (i := 1) rfl)) (fun _ h9 => h9) rfl dX4_add_8 ?_
    refine lv_aload_n hx hb dX4_add_11 rfl (lv_at hl 0 rfl) ?_
    refine va_get (v := .ref (a 19)) hx hb hts inX4_add_X4 hown hKK.1 hz.1 18 rfl rfl 0 (by decide) (hts _ (List.mem_of_getElem? (i := 2) rfl)) (fun _ h9 => h9) rfl dX4_add_12 ?_
    refine va_alen (v := (16 : Int32)) hx hb hKK.1 hz.1 19 0 rfl rfl rfl dX4_add_15 ?_
    refine lv_icmp_ge (tgt := 26) hx hb dX4_add_16 (by decide) (fun c2 => ?_) (fun c2 => ?_)
    · replace h := ite_t c2 h
      refine lv_iconst (v := (0 : Int32)) hx hb dX4_add_26 (by decide) ?_
      exact rt (0 : Int32) σ 27 _ _ _ dX4_add_27 h hz (Or.inl rfl)
    · replace h := ite_f c2 h
      refine lv_iload_n hx hb dX4_add_19 rfl (lv_at hl 2 rfl) ?_
      obtain ⟨r3, e5, h⟩ := bd1_e h
      refine zcallSi (As := [.int x2]) (rest := []) CF hKK (KX4_isItem (dC := dC) (dI := dI) (cI := cI) (cZ := cZ) (a := a) hok e5) (va_cwS 1 hts gX4_add_X4_isItem rfl rfl rfl cdX4_isItem.2 ⟨Nat.le_of_ble_eq_true rfl, Nat.le_of_ble_eq_true rfl⟩) hz rfl hl.1 rfl (Nat.le_of_ble_eq_true rfl) dX4_add_20 ⟨Nat.le_refl _, Nat.le_refl _⟩ (fun H locs hz => ?_)
      refine lv_if_ne (tgt := 28) hx hb dX4_add_23 (by decide) (fun c6 => ?_) (fun c6 => ?_)
      · replace h := ite_f c6 h
        refine lv_aload_n hx hb dX4_add_28 rfl (lv_at hl 0 rfl) ?_
        refine va_get (v := .ref (a 19)) hx hb hts inX4_add_X4 hown hKK.1 hz.1 18 rfl rfl 0 (by decide) (hts _ (List.mem_of_getElem? (i := 2) rfl)) (fun _ h9 => h9) rfl dX4_add_29 ?_
        refine lv_aload_n hx hb dX4_add_32 rfl (lv_at hl 0 rfl) ?_
        refine va_get (v := .int (σ 57 0)) hx hb hts inX4_add_X4 hown hKK.1 hz.1 18 rfl rfl 5 (by decide) (hts _ (List.mem_of_getElem? (i := 1) rfl)) (fun _ h9 => h9) rfl dX4_add_33 ?_
        refine lv_iload_n hx hb dX4_add_36 rfl (lv_at hl 1 rfl) ?_
        obtain ⟨c7, h⟩ := ck_e h
        refine ziast (f := σ 19) (w' := wdC cI cZ a (sa σ 19 (Int32.toNatClampNeg (σ 57 0)) x1)) hx hb hKK hok wkC hz 19 rfl c7 setCa_19 dX4_add_37 (fun H locs hz => ?_)
        refine lv_aload_n hx hb dX4_add_38 rfl (lv_at hl 0 rfl) ?_
        refine va_get (v := .ref (a 20)) hx hb hts inX4_add_X4 hown hKK.1 hz.1 18 rfl rfl 1 (by decide) (hts _ (List.mem_of_getElem? (i := 3) rfl)) (fun _ h9 => h9) rfl dX4_add_39 ?_
        refine lv_aload_n hx hb dX4_add_42 rfl (lv_at hl 0 rfl) ?_
        refine va_get (v := .int (σ 57 0)) hx hb hts inX4_add_X4 hown hKK.1 hz.1 18 rfl rfl 5 (by decide) (hts _ (List.mem_of_getElem? (i := 1) rfl)) (fun _ h9 => h9) rfl dX4_add_43 ?_
        refine lv_iload_n hx hb dX4_add_46 rfl (lv_at hl 2 rfl) ?_
        obtain ⟨c8, h⟩ := ck_e h
        refine ziast (f := (sa σ 19 (Int32.toNatClampNeg (σ 57 0)) x1) 20) (w' := wdC cI cZ a (sa (sa σ 19 (Int32.toNatClampNeg (σ 57 0)) x1) 20 (Int32.toNatClampNeg (σ 57 0)) x2)) hx hb hKK hok wkC hz 20 rfl c8 setCa_20 dX4_add_47 (fun H locs hz => ?_)
        refine lv_aload_n hx hb dX4_add_48 rfl (lv_at hl 0 rfl) ?_
        refine va_get (v := .ref (a 21)) hx hb hts inX4_add_X4 hown hKK.1 hz.1 18 rfl rfl 2 (by decide) (hts _ (List.mem_of_getElem? (i := 4) rfl)) (fun _ h9 => h9) rfl dX4_add_49 ?_
        refine lv_aload_n hx hb dX4_add_52 rfl (lv_at hl 0 rfl) ?_
        refine va_get (v := .int (σ 57 0)) hx hb hts inX4_add_X4 hown hKK.1 hz.1 18 rfl rfl 5 (by decide) (hts _ (List.mem_of_getElem? (i := 1) rfl)) (fun _ h9 => h9) rfl dX4_add_53 ?_
        refine lv_aload_n hx hb dX4_add_56 rfl (lv_at hl 0 rfl) ?_
        refine va_get (v := .ref (a 22)) hx hb hts inX4_add_X4 hown hKK.1 hz.1 18 rfl rfl 3 (by decide) (hts _ (List.mem_of_getElem? (i := 5) rfl)) (fun _ h9 => h9) rfl dX4_add_57 ?_
        refine lv_iload_n hx hb dX4_add_60 rfl (lv_at hl 2 rfl) ?_
        obtain ⟨c9, h⟩ := ck_e h
        refine va_iald (f := (σ 22)) hx hb hKK.1 hz.1 22 0 rfl rfl c9 dX4_add_61 ?_
        obtain ⟨c10, h⟩ := ck_e h
        refine ziast (f := (sa (sa σ 19 (Int32.toNatClampNeg (σ 57 0)) x1) 20 (Int32.toNatClampNeg (σ 57 0)) x2) 21) (w' := wdC cI cZ a (sa (sa (sa σ 19 (Int32.toNatClampNeg (σ 57 0)) x1) 20 (Int32.toNatClampNeg (σ 57 0)) x2) 21 (Int32.toNatClampNeg (σ 57 0)) ((σ 22) (Int32.toNatClampNeg x2)))) hx hb hKK hok wkC hz 21 rfl c10 setCa_21 dX4_add_62 (fun H locs hz => ?_)
        refine lv_aload_n hx hb dX4_add_63 rfl (lv_at hl 0 rfl) ?_
        refine va_get (v := .ref (a 22)) hx hb hts inX4_add_X4 hown hKK.1 hz.1 18 rfl rfl 3 (by decide) (hts _ (List.mem_of_getElem? (i := 5) rfl)) (fun _ h9 => h9) rfl dX4_add_64 ?_
        refine lv_iload_n hx hb dX4_add_67 rfl (lv_at hl 2 rfl) ?_
        refine lv_dup2_11 hx hb dX4_add_68 rfl rfl ?_
        obtain ⟨c11, h⟩ := ck_e h
        refine va_iald (f := (σ 22)) hx hb hKK.1 hz.1 22 0 rfl rfl c11 dX4_add_69 ?_
        refine lv_iconst (v := (1 : Int32)) hx hb dX4_add_70 (by decide) ?_
        refine lv_iadd hx hb dX4_add_71 ?_
        obtain ⟨c12, h⟩ := ck_e h
        refine ziast (f := (sa (sa (sa σ 19 (Int32.toNatClampNeg (σ 57 0)) x1) 20 (Int32.toNatClampNeg (σ 57 0)) x2) 21 (Int32.toNatClampNeg (σ 57 0)) ((σ 22) (Int32.toNatClampNeg x2))) 22) (w' := wdC cI cZ a (sa (sa (sa (sa σ 19 (Int32.toNatClampNeg (σ 57 0)) x1) 20 (Int32.toNatClampNeg (σ 57 0)) x2) 21 (Int32.toNatClampNeg (σ 57 0)) ((σ 22) (Int32.toNatClampNeg x2))) 22 (Int32.toNatClampNeg x2) (((σ 22) (Int32.toNatClampNeg x2)) + (1 : Int32)))) hx hb hKK hok wkC hz 22 rfl c12 setCa_22 dX4_add_72 (fun H locs hz => ?_)
        refine lv_aload_n hx hb dX4_add_73 rfl (lv_at hl 0 rfl) ?_
        refine lv_dup hx hb dX4_add_74 rfl ?_
        refine va_get (v := .int (σ 57 0)) hx hb hts inX4_add_X4 hown hKK.1 hz.1 18 rfl rfl 5 (by decide) (hts _ (List.mem_of_getElem? (i := 1) rfl)) (fun _ h9 => h9) rfl dX4_add_75 ?_
        refine lv_iconst (v := (1 : Int32)) hx hb dX4_add_78 (by decide) ?_
        refine lv_iadd hx hb dX4_add_79 ?_
        refine zput (ty := .int) (w' := wdC cI cZ a (si (sa (sa (sa (sa σ 19 (Int32.toNatClampNeg (σ 57 0)) x1) 20 (Int32.toNatClampNeg (σ 57 0)) x2) 21 (Int32.toNatClampNeg (σ 57 0)) ((σ 22) (Int32.toNatClampNeg x2))) 22 (Int32.toNatClampNeg x2) (((σ 22) (Int32.toNatClampNeg x2)) + (1 : Int32))) 57 ((σ 57 0) + (1 : Int32)))) hx hb hts inX4_add_X4 tyX4 tyX4_ok nmX4 hown hKK hok wkC hz 18 rfl rfl 5 (by decide) (hts _ (List.mem_of_getElem? (i := 1) rfl)) (fun _ h9 => h9) rfl rfl rfl rfl (Nat.le_of_ble_eq_true rfl) setCi_57 dX4_add_80 (fun H locs hz => ?_)
        refine lv_iconst (v := (1 : Int32)) hx hb dX4_add_83 (by decide) ?_
        exact rt (1 : Int32) (si (sa (sa (sa (sa σ 19 (Int32.toNatClampNeg (σ 57 0)) x1) 20 (Int32.toNatClampNeg (σ 57 0)) x2) 21 (Int32.toNatClampNeg (σ 57 0)) ((σ 22) (Int32.toNatClampNeg x2))) 22 (Int32.toNatClampNeg x2) (((σ 22) (Int32.toNatClampNeg x2)) + (1 : Int32))) 57 ((σ 57 0) + (1 : Int32))) 84 _ _ _ dX4_add_84 h hz (Or.inr rfl)
      · replace h := ite_t c6 h
        refine lv_iconst (v := (0 : Int32)) hx hb dX4_add_26 (by decide) ?_
        exact rt (0 : Int32) σ 27 _ _ _ dX4_add_27 h hz (Or.inl rfl)
def fX2_bringsConstant_s13 (k13 : St → Int32 → Int32 → Int32 → Int32 → Option (Int32 × St)) (σ : St) (y1 : Int32) (y2 : Int32) (y3 : Int32) (y4 : Int32) : Option (Int32 × St) :=
  (bd1 (fX0_size_p σ ) fun r4 => (if r4 ≤ y4 then ((if y3 = (-1 : Int32) then (some ((0 : Int32), σ)) else ((bd1 (fX0_toldOf_p σ y1) fun r9 => (bd2 (fX4_add_c σ r9 y3) fun r12 s13 => (if r12 = 0 then (some ((0 : Int32), s13)) else (some ((1 : Int32), s13)))))))) else ((bd1 (fX0_kindOf_p σ y4) fun r16 => (if r16 = (5 : Int32) then ((bd1 (fX2_nextConstantIn σ y4) fun r20 => (bd1 (fX2_isInLoadReach σ y2 r20) fun r23 => (if r23 = 0 then (k13 σ y1 y2 y3 (y4 + (1 : Int32))) else (k13 σ y1 y2 y4 (y4 + (1 : Int32))))))) else (k13 σ y1 y2 y3 (y4 + (1 : Int32))))))))
def fX2_bringsConstant_l13  : Nat → St → Int32 → Int32 → Int32 → Int32 → Option (Int32 × St) :=
  itr (fX2_bringsConstant_s13 ) (fun _ _ _ _ _ => none)
def fX2_bringsConstant (σ : St) (x1 : Int32) : Option (Int32 × St) :=
  (bd1 (fX2_addressOf σ x1) fun r1 => fX2_bringsConstant_l13  FU σ x1 r1 (-1 : Int32) (x1 + (1 : Int32)))
abbrev rmX2_bringsConstant : Room := { frames := 3, cells := 0, slots := 0, locals := 63 }
set_option maxHeartbeats 4000000 in
set_option maxRecDepth 100000 in
theorem KX2_bringsConstant {l : Launch} {dC : Nat → ClassId} {dI : Nat → Nat → Nat} {cI cZ : ClassId} {a : Nat → Nat} {σ : St} {x1 : Int32} {r : Int32} {σ2 : St} (hok : okA 30 a) (h : fX2_bringsConstant σ x1 = some (r, σ2)) (sz : Nat) : Met l yX2_bringsConstant wsX2_bringsConstant rmX2_bringsConstant (Pz (dC, dI) cI cZ (wdC cI cZ a σ) sz [.ref (a 11), .int x1]) (Qzi (dC, dI) 30 a (wdC cI cZ a σ2) sz r) 0 0 (aN 30 a sz) := by
  refine Met.ofW (cc := cX2_bringsConstant) (maxL := 5) (ret := (some .boolean)) (by decide) rfl ?_
  intro p e s m args below meth c s₁ B hml hv
  obtain ⟨hav, hsz, hP, hKK⟩ := hv
  have hx := B.exec
  have hb := B.bytes
  have hr := B.returns
  have hts := atoms_spec (ws := wsX2_bringsConstant) B.pre
  have hown : s.vm.findClass RX2 = some m.cls := findClass_of_methodNamed B.named
  have hlocks := B.notSynchronized
  have CF : CallFix p m c cX2_bringsConstant 5 s args wsX2_bringsConstant RX2 := ⟨hx, hb, hml, hown, hts⟩
  have hz : zz (dC, dI) 30 a (wdC cI cZ a σ) s.heap s.heap [] := ⟨hP, va_S.rf⟩
  have hl := lv_entry [.ref (a 11), .int x1] (n := 5) (Nat.le_of_ble_eq_true rfl)
  have hen : entryFrame m args 5 = entryFrame m ([.ref (a 11), .int x1] : List Value).toArray 5 := by rw [hav]
  rw [hen, lg_entry_eq]
  generalize (lg_sl [.ref (a 11), .int x1] ++ List.replicate (5 - (lg_sl [.ref (a 11), .int x1]).length) Slot.unset).toArray = ls at hl ⊢
  have hl : lv_has ls 5 [(0, .ref (a 11)), (1, .int x1)] := hl
  have eR : (headSpec wsX2_bringsConstant rmX2_bringsConstant).room = rmX2_bringsConstant := rfl
  rw [eR]
  have rt : ∀ (v : Int32) (t : St) (pc : Nat) (H : Heap) (locs : List Loc) (ls : Array Slot), decode cX2_bringsConstant pc = .ok (.ireturn, 1) → some (v, t) = some (r, σ2) → zz (dC, dI) 30 a (wdC cI cZ a t) s.heap H locs → (v = 0 ∨ v = 1) → W p l e rmX2_bringsConstant s m args below meth c H locs 0 0 (MQ below (Qzi (dC, dI) 30 a (wdC cI cZ a σ2) sz r) args s 0 0 (aN 30 a sz)) (F0 m pc ls [.int v]) := by
    intro v t pc H locs ls hd h hz hv
    cases h
    exact zzret hsz hx hb hr hlocks hv hz hd
  generalize (MQ below (Qzi (dC, dI) 30 a (wdC cI cZ a σ2) sz r) args s 0 0 (aN 30 a sz)) = Q at rt ⊢
  have s13 : ∀ (k13 : St → Int32 → Int32 → Int32 → Int32 → Option (Int32 × St)) (hk13 : (∀ (σ : St) (y1 : Int32) (y2 : Int32) (y3 : Int32) (y4 : Int32) (H : Heap) (locs : List Loc) (ls : Array Slot), k13 σ y1 y2 y3 y4 = some (r, σ2) → zz (dC, dI) 30 a (wdC cI cZ a σ) s.heap H locs → lv_has ls 5 [(0, .ref (a 11)), (1, .int y1), (2, .int y2), (3, .int y3), (4, .int y4)] → W p l e rmX2_bringsConstant s m args below meth c H locs 0 0 Q (F0 m 13 ls []))) (σ : St) (y1 : Int32) (y2 : Int32) (y3 : Int32) (y4 : Int32) (H : Heap) (locs : List Loc) (ls : Array Slot), fX2_bringsConstant_s13 k13 σ y1 y2 y3 y4 = some (r, σ2) → zz (dC, dI) 30 a (wdC cI cZ a σ) s.heap H locs → lv_has ls 5 [(0, .ref (a 11)), (1, .int y1), (2, .int y2), (3, .int y3), (4, .int y4)] → W p l e rmX2_bringsConstant s m args below meth c H locs 0 0 Q (F0 m 13 ls []) := by
    intro k13 hk13 σ y1 y2 y3 y4 H locs ls h hz hl
    unfold fX2_bringsConstant_s13 at h
    refine lv_iload hx hb dX2_bringsConstant_13 (lv_at hl 4 rfl) ?_
    refine lv_aload_n hx hb dX2_bringsConstant_15 rfl (lv_at hl 0 rfl) ?_
    refine va_get (v := .ref (a 7)) hx hb hts inX2_bringsConstant_X2 hown hKK.1 hz.1 11 rfl rfl 0 (by decide) (hts _ (List.mem_of_getElem? (i := 1) rfl)) (fun _ h9 => h9) rfl dX2_bringsConstant_16 ?_
    obtain ⟨r4, e6, h⟩ := bd1_e h
    refine zcallVi (As := []) (rest := [.int y4]) CF hKK (KX0_size_p (dC := dC) (dI := dI) (cI := cI) (cZ := cZ) (a := a) hok e6) (cwV 0 hts gX2_bringsConstant_X0_size rfl rfl rfl cdX0_size ⟨Nat.le_of_ble_eq_true rfl, Nat.le_of_ble_eq_true rfl⟩) 7 0 rfl rfl hz rfl hl.1 rfl (Nat.le_of_ble_eq_true rfl) dX2_bringsConstant_19 ⟨Nat.le_refl _, Nat.le_refl _⟩ (fun H locs hz => ?_)
    refine lv_icmp_ge (tgt := 61) hx hb dX2_bringsConstant_22 (by decide) (fun c7 => ?_) (fun c7 => ?_)
    · replace h := ite_t c7 h
      refine lv_iload_n hx hb dX2_bringsConstant_61 rfl (lv_at hl 3 rfl) ?_
      refine lv_iconst (v := (-1 : Int32)) hx hb dX2_bringsConstant_62 (by decide) ?_
      refine lv_icmp_eq (tgt := 89) hx hb dX2_bringsConstant_63 (by decide) (fun c8 => ?_) (fun c8 => ?_)
      · replace h := ite_t c8 h
        refine lv_iconst (v := (0 : Int32)) hx hb dX2_bringsConstant_89 (by decide) ?_
        exact rt (0 : Int32) σ 90 _ _ _ dX2_bringsConstant_90 h hz (Or.inl rfl)
      · replace h := ite_f c8 h
        refine lv_aload_n hx hb dX2_bringsConstant_66 rfl (lv_at hl 0 rfl) ?_
        refine va_get (v := .ref (a 18)) hx hb hts inX2_bringsConstant_X2 hown hKK.1 hz.1 11 rfl rfl 3 (by decide) (hts _ (List.mem_of_getElem? (i := 2) rfl)) (fun _ h9 => h9) rfl dX2_bringsConstant_67 ?_
        refine lv_aload_n hx hb dX2_bringsConstant_70 rfl (lv_at hl 0 rfl) ?_
        refine va_get (v := .ref (a 7)) hx hb hts inX2_bringsConstant_X2 hown hKK.1 hz.1 11 rfl rfl 0 (by decide) (hts _ (List.mem_of_getElem? (i := 1) rfl)) (fun _ h9 => h9) rfl dX2_bringsConstant_71 ?_
        refine lv_iload_n hx hb dX2_bringsConstant_74 rfl (lv_at hl 1 rfl) ?_
        obtain ⟨r9, e11, h⟩ := bd1_e h
        refine zcallVi (As := [.int y1]) (rest := [.ref (a 18)]) CF hKK (KX0_toldOf_p (dC := dC) (dI := dI) (cI := cI) (cZ := cZ) (a := a) hok e11) (cwV 1 hts gX2_bringsConstant_X0_toldOf rfl rfl rfl cdX0_toldOf ⟨Nat.le_of_ble_eq_true rfl, Nat.le_of_ble_eq_true rfl⟩) 7 0 rfl rfl hz rfl hl.1 rfl (Nat.le_of_ble_eq_true rfl) dX2_bringsConstant_75 ⟨Nat.le_refl _, Nat.le_refl _⟩ (fun H locs hz => ?_)
        refine lv_iload_n hx hb dX2_bringsConstant_78 rfl (lv_at hl 3 rfl) ?_
        obtain ⟨r12, s13, e14, h⟩ := bd2_e h
        refine zcallVi (As := [.int r9, .int y3]) (rest := []) CF hKK (KX4_add_c (dC := dC) (dI := dI) (cI := cI) (cZ := cZ) (a := a) hok e14) (cwV 2 hts gX2_bringsConstant_X4_add rfl rfl rfl cdX4_add ⟨Nat.le_of_ble_eq_true rfl, Nat.le_of_ble_eq_true rfl⟩) 18 4 rfl rfl hz rfl hl.1 rfl (Nat.le_of_ble_eq_true rfl) dX2_bringsConstant_79 ⟨Nat.le_refl _, Nat.le_refl _⟩ (fun H locs hz => ?_)
        refine lv_if_eq (tgt := 89) hx hb dX2_bringsConstant_82 (by decide) (fun c15 => ?_) (fun c15 => ?_)
        · replace h := ite_t c15 h
          refine lv_iconst (v := (0 : Int32)) hx hb dX2_bringsConstant_89 (by decide) ?_
          exact rt (0 : Int32) s13 90 _ _ _ dX2_bringsConstant_90 h hz (Or.inl rfl)
        · replace h := ite_f c15 h
          refine lv_iconst (v := (1 : Int32)) hx hb dX2_bringsConstant_85 (by decide) ?_
          refine lv_goto (tgt := 90) hx hb dX2_bringsConstant_86 (by decide) ?_
          exact rt (1 : Int32) s13 90 _ _ _ dX2_bringsConstant_90 h hz (Or.inr rfl)
    · replace h := ite_f c7 h
      refine lv_aload_n hx hb dX2_bringsConstant_25 rfl (lv_at hl 0 rfl) ?_
      refine va_get (v := .ref (a 7)) hx hb hts inX2_bringsConstant_X2 hown hKK.1 hz.1 11 rfl rfl 0 (by decide) (hts _ (List.mem_of_getElem? (i := 1) rfl)) (fun _ h9 => h9) rfl dX2_bringsConstant_26 ?_
      refine lv_iload hx hb dX2_bringsConstant_29 (lv_at hl 4 rfl) ?_
      obtain ⟨r16, e18, h⟩ := bd1_e h
      refine zcallVi (As := [.int y4]) (rest := []) CF hKK (KX0_kindOf_p (dC := dC) (dI := dI) (cI := cI) (cZ := cZ) (a := a) hok e18) (cwV 1 hts gX2_bringsConstant_X0_kindOf rfl rfl rfl cdX0_kindOf ⟨Nat.le_of_ble_eq_true rfl, Nat.le_of_ble_eq_true rfl⟩) 7 0 rfl rfl hz rfl hl.1 rfl (Nat.le_of_ble_eq_true rfl) dX2_bringsConstant_31 ⟨Nat.le_refl _, Nat.le_refl _⟩ (fun H locs hz => ?_)
      refine lv_iconst (v := (5 : Int32)) hx hb dX2_bringsConstant_34 (by decide) ?_
      refine lv_icmp_ne (tgt := 55) hx hb dX2_bringsConstant_35 (by decide) (fun c19 => ?_) (fun c19 => ?_)
      · replace h := ite_f c19 h
        refine lv_iinc (v := (y4 + (1 : Int32))) (lv' := [(4, .int (y4 + (1 : Int32))), (0, .ref (a 11)), (1, .int y1), (2, .int y2), (3, .int y3)]) hx hb dX2_bringsConstant_55 hl (k := 4) rfl rfl (by decide) rfl (fun ls hl => ?_)
        refine lv_goto (tgt := 13) hx hb dX2_bringsConstant_58 (by decide) ?_
        exact hk13 σ y1 y2 y3 (y4 + (1 : Int32)) _ _ _ h hz (lv_sub hl [1, 2, 3, 4, 0] rfl)
      · replace h := ite_t c19 h
        refine lv_aload_n hx hb dX2_bringsConstant_38 rfl (lv_at hl 0 rfl) ?_
        refine lv_iload_n hx hb dX2_bringsConstant_39 rfl (lv_at hl 2 rfl) ?_
        refine lv_aload_n hx hb dX2_bringsConstant_40 rfl (lv_at hl 0 rfl) ?_
        refine lv_iload hx hb dX2_bringsConstant_41 (lv_at hl 4 rfl) ?_
        obtain ⟨r20, e22, h⟩ := bd1_e h
        refine zcallVi (As := [.int y4]) (rest := [.int y2, .ref (a 11)]) CF hKK (KX2_nextConstantIn (dC := dC) (dI := dI) (cI := cI) (cZ := cZ) (a := a) hok e22) (cwV 1 hts gX2_bringsConstant_X2_nextConstantIn rfl rfl rfl cdX2_nextConstantIn ⟨Nat.le_of_ble_eq_true rfl, Nat.le_of_ble_eq_true rfl⟩) 11 2 rfl rfl hz rfl hl.1 rfl (Nat.le_of_ble_eq_true rfl) dX2_bringsConstant_43 ⟨Nat.le_refl _, Nat.le_refl _⟩ (fun H locs hz => ?_)
        obtain ⟨r23, e25, h⟩ := bd1_e h
        refine zcallVi (As := [.int y2, .int r20]) (rest := []) CF hKK (KX2_isInLoadReach (dC := dC) (dI := dI) (cI := cI) (cZ := cZ) (a := a) hok e25) (cwV 2 hts gX2_bringsConstant_X2_isInLoadReach rfl rfl rfl cdX2_isInLoadReach ⟨Nat.le_of_ble_eq_true rfl, Nat.le_of_ble_eq_true rfl⟩) 11 2 rfl rfl hz rfl hl.1 rfl (Nat.le_of_ble_eq_true rfl) dX2_bringsConstant_46 ⟨Nat.le_refl _, Nat.le_refl _⟩ (fun H locs hz => ?_)
        refine lv_if_eq (tgt := 55) hx hb dX2_bringsConstant_49 (by decide) (fun c26 => ?_) (fun c26 => ?_)
        · replace h := ite_t c26 h
          refine lv_iinc (v := (y4 + (1 : Int32))) (lv' := [(4, .int (y4 + (1 : Int32))), (0, .ref (a 11)), (1, .int y1), (2, .int y2), (3, .int y3)]) hx hb dX2_bringsConstant_55 hl (k := 4) rfl rfl (by decide) rfl (fun ls hl => ?_)
          refine lv_goto (tgt := 13) hx hb dX2_bringsConstant_58 (by decide) ?_
          exact hk13 σ y1 y2 y3 (y4 + (1 : Int32)) _ _ _ h hz (lv_sub hl [1, 2, 3, 4, 0] rfl)
        · replace h := ite_f c26 h
          refine lv_iload hx hb dX2_bringsConstant_52 (lv_at hl 4 rfl) ?_
          refine lv_istore_n (lv' := [(3, .int y4), (0, .ref (a 11)), (1, .int y1), (2, .int y2), (4, .int y4)]) hx hb dX2_bringsConstant_54 rfl hl (by decide) rfl (fun ls hl => ?_)
          refine lv_iinc (v := (y4 + (1 : Int32))) (lv' := [(4, .int (y4 + (1 : Int32))), (3, .int y4), (0, .ref (a 11)), (1, .int y1), (2, .int y2)]) hx hb dX2_bringsConstant_55 hl (k := 4) rfl rfl (by decide) rfl (fun ls hl => ?_)
          refine lv_goto (tgt := 13) hx hb dX2_bringsConstant_58 (by decide) ?_
          exact hk13 σ y1 y2 y4 (y4 + (1 : Int32)) _ _ _ h hz (lv_sub hl [2, 3, 4, 1, 0] rfl)
  have l13 : ∀  (n : Nat), ∀ (σ : St) (y1 : Int32) (y2 : Int32) (y3 : Int32) (y4 : Int32) (H : Heap) (locs : List Loc) (ls : Array Slot), fX2_bringsConstant_l13  n σ y1 y2 y3 y4 = some (r, σ2) → zz (dC, dI) 30 a (wdC cI cZ a σ) s.heap H locs → lv_has ls 5 [(0, .ref (a 11)), (1, .int y1), (2, .int y2), (3, .int y3), (4, .int y4)] → W p l e rmX2_bringsConstant s m args below meth c H locs 0 0 Q (F0 m 13 ls []) := by
    intro  n
    induction n with
    | zero => intro σ y1 y2 y3 y4 H locs ls h; exact nomatch h
    | succ n ih => exact s13  (fX2_bringsConstant_l13  n) ih
  unfold fX2_bringsConstant at h
  refine lv_aload_n hx hb dX2_bringsConstant_0 rfl (lv_at hl 0 rfl) ?_
  refine lv_iload_n hx hb dX2_bringsConstant_1 rfl (lv_at hl 1 rfl) ?_
  obtain ⟨r1, e3, h⟩ := bd1_e h
  refine zcallVi (As := [.int x1]) (rest := []) CF hKK (KX2_addressOf (dC := dC) (dI := dI) (cI := cI) (cZ := cZ) (a := a) hok e3) (cwV 1 hts gX2_bringsConstant_X2_addressOf rfl rfl rfl cdX2_addressOf ⟨Nat.le_of_ble_eq_true rfl, Nat.le_of_ble_eq_true rfl⟩) 11 2 rfl rfl hz rfl hl.1 rfl (Nat.le_of_ble_eq_true rfl) dX2_bringsConstant_2 ⟨Nat.le_refl _, Nat.le_refl _⟩ (fun H locs hz => ?_)
  refine lv_istore_n (lv' := [(2, .int r1), (0, .ref (a 11)), (1, .int x1)]) hx hb dX2_bringsConstant_5 rfl hl (by decide) rfl (fun ls hl => ?_)
  refine lv_iconst (v := (-1 : Int32)) hx hb dX2_bringsConstant_6 (by decide) ?_
  refine lv_istore_n (lv' := [(3, .int (-1 : Int32)), (2, .int r1), (0, .ref (a 11)), (1, .int x1)]) hx hb dX2_bringsConstant_7 rfl hl (by decide) rfl (fun ls hl => ?_)
  refine lv_iload_n hx hb dX2_bringsConstant_8 rfl (lv_at hl 3 rfl) ?_
  refine lv_iconst (v := (1 : Int32)) hx hb dX2_bringsConstant_9 (by decide) ?_
  refine lv_iadd hx hb dX2_bringsConstant_10 ?_
  refine lv_istore (lv' := [(4, .int (x1 + (1 : Int32))), (3, .int (-1 : Int32)), (2, .int r1), (0, .ref (a 11)), (1, .int x1)]) hx hb dX2_bringsConstant_11 hl (by decide) rfl (fun ls hl => ?_)
  exact l13  FU σ x1 r1 (-1 : Int32) (x1 + (1 : Int32)) _ _ _ h hz (lv_sub hl [3, 4, 2, 1, 0] rfl)
def fX2_fails (σ : St) (x1 : Int32) (x2 : Int32) : Option (Int32 × St) :=
  some ((0 : Int32), (si (si σ 54 x1) 55 x2))
abbrev rmX2_fails : Room := { frames := 0, cells := 0, slots := 0, locals := 0 }
set_option maxHeartbeats 4000000 in
set_option maxRecDepth 100000 in
theorem KX2_fails {l : Launch} {dC : Nat → ClassId} {dI : Nat → Nat → Nat} {cI cZ : ClassId} {a : Nat → Nat} {σ : St} {x1 : Int32} {x2 : Int32} {r : Int32} {σ2 : St} (hok : okA 30 a) (h : fX2_fails σ x1 x2 = some (r, σ2)) (sz : Nat) : Met l yX2_fails wsX2_fails rmX2_fails (Pz (dC, dI) cI cZ (wdC cI cZ a σ) sz [.ref (a 11), .int x1, .int x2]) (Qzi (dC, dI) 30 a (wdC cI cZ a σ2) sz r) 0 0 (aN 30 a sz) := by
  refine Met.ofW (cc := cX2_fails) (maxL := 3) (ret := (some .boolean)) (by decide) rfl ?_
  intro p e s m args below meth c s₁ B hml hv
  obtain ⟨hav, hsz, hP, hKK⟩ := hv
  have hx := B.exec
  have hb := B.bytes
  have hr := B.returns
  have hts := atoms_spec (ws := wsX2_fails) B.pre
  have hown : s.vm.findClass RX2 = some m.cls := findClass_of_methodNamed B.named
  have hlocks := B.notSynchronized
  have CF : CallFix p m c cX2_fails 3 s args wsX2_fails RX2 := ⟨hx, hb, hml, hown, hts⟩
  have hz : zz (dC, dI) 30 a (wdC cI cZ a σ) s.heap s.heap [] := ⟨hP, va_S.rf⟩
  have hl := lv_entry [.ref (a 11), .int x1, .int x2] (n := 3) (Nat.le_of_ble_eq_true rfl)
  have hen : entryFrame m args 3 = entryFrame m ([.ref (a 11), .int x1, .int x2] : List Value).toArray 3 := by rw [hav]
  rw [hen, lg_entry_eq]
  generalize (lg_sl [.ref (a 11), .int x1, .int x2] ++ List.replicate (3 - (lg_sl [.ref (a 11), .int x1, .int x2]).length) Slot.unset).toArray = ls at hl ⊢
  have hl : lv_has ls 3 [(0, .ref (a 11)), (1, .int x1), (2, .int x2)] := hl
  have eR : (headSpec wsX2_fails rmX2_fails).room = rmX2_fails := rfl
  rw [eR]
  have rt : ∀ (v : Int32) (t : St) (pc : Nat) (H : Heap) (locs : List Loc) (ls : Array Slot), decode cX2_fails pc = .ok (.ireturn, 1) → some (v, t) = some (r, σ2) → zz (dC, dI) 30 a (wdC cI cZ a t) s.heap H locs → (v = 0 ∨ v = 1) → W p l e rmX2_fails s m args below meth c H locs 0 0 (MQ below (Qzi (dC, dI) 30 a (wdC cI cZ a σ2) sz r) args s 0 0 (aN 30 a sz)) (F0 m pc ls [.int v]) := by
    intro v t pc H locs ls hd h hz hv
    cases h
    exact zzret hsz hx hb hr hlocks hv hz hd
  generalize (MQ below (Qzi (dC, dI) 30 a (wdC cI cZ a σ2) sz r) args s 0 0 (aN 30 a sz)) = Q at rt ⊢
  unfold fX2_fails at h
  refine lv_aload_n hx hb dX2_fails_0 rfl (lv_at hl 0 rfl) ?_
  refine lv_iload_n hx hb dX2_fails_1 rfl (lv_at hl 1 rfl) ?_
  refine zput (ty := .int) (w' := wdC cI cZ a (si σ 54 x1)) hx hb hts inX2_fails_X2 tyX2 tyX2_ok nmX2 hown hKK hok wkC hz 11 rfl rfl 14 (by decide) (hts _ (List.mem_of_getElem? (i := 1) rfl)) (fun _ h9 => h9) rfl rfl rfl rfl (Nat.le_of_ble_eq_true rfl) setCi_54 dX2_fails_2 (fun H locs hz => ?_)
  refine lv_aload_n hx hb dX2_fails_5 rfl (lv_at hl 0 rfl) ?_
  refine lv_iload_n hx hb dX2_fails_6 rfl (lv_at hl 2 rfl) ?_
  refine zput (ty := .int) (w' := wdC cI cZ a (si (si σ 54 x1) 55 x2)) hx hb hts inX2_fails_X2 tyX2 tyX2_ok nmX2 hown hKK hok wkC hz 11 rfl rfl 15 (by decide) (hts _ (List.mem_of_getElem? (i := 2) rfl)) (fun _ h9 => h9) rfl rfl rfl rfl (Nat.le_of_ble_eq_true rfl) setCi_55 dX2_fails_7 (fun H locs hz => ?_)
  refine lv_iconst (v := (0 : Int32)) hx hb dX2_fails_10 (by decide) ?_
  exact rt (0 : Int32) (si (si σ 54 x1) 55 x2) 11 _ _ _ dX2_fails_11 h hz (Or.inl rfl)
def fX2_bringsIsland_b75 (k19 : St → Int32 → Int32 → Int32 → Int32 → Int32 → Int32 → Option (Int32 × St)) (σ : St) (y1 : Int32) (y2 : Int32) (y3 : Int32) (y4 : Int32) (y5 : Int32) (y6 : Int32) (y7 : Int32) (t0 : Int32) : Option (Int32 × St) :=
  (if t0 = 0 then (k19 σ y1 y2 y3 y4 y5 (y6 + (1 : Int32))) else ((bd1 (fX5_far σ y7 y3) fun r24 => (if y5 ≤ r24 then (k19 σ y1 y2 y3 y4 y5 (y6 + (1 : Int32))) else ((bd1 (fX5_far σ y7 y3) fun r28 => k19 σ y1 y2 y3 y6 r28 (y6 + (1 : Int32))))))))
def fX2_bringsIsland_b74 (k19 : St → Int32 → Int32 → Int32 → Int32 → Int32 → Int32 → Option (Int32 × St)) (σ : St) (y1 : Int32) (y2 : Int32) (y3 : Int32) (y4 : Int32) (y5 : Int32) (y6 : Int32) (y7 : Int32) : Option (Int32 × St) :=
  fX2_bringsIsland_b75 k19 σ y1 y2 y3 y4 y5 y6 y7 (0 : Int32)
def fX2_bringsIsland_s19 (k19 : St → Int32 → Int32 → Int32 → Int32 → Int32 → Int32 → Option (Int32 × St)) (σ : St) (y1 : Int32) (y2 : Int32) (y3 : Int32) (y4 : Int32) (y5 : Int32) (y6 : Int32) : Option (Int32 × St) :=
  (bd1 (fX0_size_p σ ) fun r7 => (if r7 ≤ y6 then ((if y4 = (-1 : Int32) then (some ((0 : Int32), σ)) else ((bd2 (fX4_add_i σ y2 y4) fun r12 s13 => (if r12 = 0 then (some ((0 : Int32), s13)) else (some ((1 : Int32), s13))))))) else ((bd1 (fX4_endOf_i σ y6) fun r16 => (bd1 (fX0_kindOf_p σ y6) fun r19 => (if r19 = (5 : Int32) then ((bd1 (fX5_far σ r16 y1) fun r31 => (if ((σ 10) (Int32.toNatClampNeg (1 : Int32))) < r31 then (fX2_bringsIsland_b74 k19 σ y1 y2 y3 y4 y5 y6 r16) else (fX2_bringsIsland_b75 k19 σ y1 y2 y3 y4 y5 y6 r16 (1 : Int32))))) else (fX2_bringsIsland_b74 k19 σ y1 y2 y3 y4 y5 y6 r16)))))))
def fX2_bringsIsland_l19  : Nat → St → Int32 → Int32 → Int32 → Int32 → Int32 → Int32 → Option (Int32 × St) :=
  itr (fX2_bringsIsland_s19 ) (fun _ _ _ _ _ _ _ => none)
def fX2_bringsIsland (σ : St) (x1 : Int32) (x2 : Int32) : Option (Int32 × St) :=
  (bd1 (fX2_labelAddress σ x2) fun r1 => (bd1 (fX5_far σ x1 r1) fun r4 => fX2_bringsIsland_l19  FU σ x1 x2 r1 (-1 : Int32) r4 (0 : Int32)))
abbrev rmX2_bringsIsland : Room := { frames := 2, cells := 0, slots := 0, locals := 42 }
set_option maxHeartbeats 4000000 in
set_option maxRecDepth 100000 in
theorem KX2_bringsIsland {l : Launch} {dC : Nat → ClassId} {dI : Nat → Nat → Nat} {cI cZ : ClassId} {a : Nat → Nat} {σ : St} {x1 : Int32} {x2 : Int32} {r : Int32} {σ2 : St} (hok : okA 30 a) (h : fX2_bringsIsland σ x1 x2 = some (r, σ2)) (sz : Nat) : Met l yX2_bringsIsland wsX2_bringsIsland rmX2_bringsIsland (Pz (dC, dI) cI cZ (wdC cI cZ a σ) sz [.ref (a 11), .int x1, .int x2]) (Qzi (dC, dI) 30 a (wdC cI cZ a σ2) sz r) 0 0 (aN 30 a sz) := by
  refine Met.ofW (cc := cX2_bringsIsland) (maxL := 9) (ret := (some .boolean)) (by decide) rfl ?_
  intro p e s m args below meth c s₁ B hml hv
  obtain ⟨hav, hsz, hP, hKK⟩ := hv
  have hx := B.exec
  have hb := B.bytes
  have hr := B.returns
  have hts := atoms_spec (ws := wsX2_bringsIsland) B.pre
  have hown : s.vm.findClass RX2 = some m.cls := findClass_of_methodNamed B.named
  have hlocks := B.notSynchronized
  have CF : CallFix p m c cX2_bringsIsland 9 s args wsX2_bringsIsland RX2 := ⟨hx, hb, hml, hown, hts⟩
  have hz : zz (dC, dI) 30 a (wdC cI cZ a σ) s.heap s.heap [] := ⟨hP, va_S.rf⟩
  have hl := lv_entry [.ref (a 11), .int x1, .int x2] (n := 9) (Nat.le_of_ble_eq_true rfl)
  have hen : entryFrame m args 9 = entryFrame m ([.ref (a 11), .int x1, .int x2] : List Value).toArray 9 := by rw [hav]
  rw [hen, lg_entry_eq]
  generalize (lg_sl [.ref (a 11), .int x1, .int x2] ++ List.replicate (9 - (lg_sl [.ref (a 11), .int x1, .int x2]).length) Slot.unset).toArray = ls at hl ⊢
  have hl : lv_has ls 9 [(0, .ref (a 11)), (1, .int x1), (2, .int x2)] := hl
  have eR : (headSpec wsX2_bringsIsland rmX2_bringsIsland).room = rmX2_bringsIsland := rfl
  rw [eR]
  have rt : ∀ (v : Int32) (t : St) (pc : Nat) (H : Heap) (locs : List Loc) (ls : Array Slot), decode cX2_bringsIsland pc = .ok (.ireturn, 1) → some (v, t) = some (r, σ2) → zz (dC, dI) 30 a (wdC cI cZ a t) s.heap H locs → (v = 0 ∨ v = 1) → W p l e rmX2_bringsIsland s m args below meth c H locs 0 0 (MQ below (Qzi (dC, dI) 30 a (wdC cI cZ a σ2) sz r) args s 0 0 (aN 30 a sz)) (F0 m pc ls [.int v]) := by
    intro v t pc H locs ls hd h hz hv
    cases h
    exact zzret hsz hx hb hr hlocks hv hz hd
  generalize (MQ below (Qzi (dC, dI) 30 a (wdC cI cZ a σ2) sz r) args s 0 0 (aN 30 a sz)) = Q at rt ⊢
  have b75 : ∀ (k19 : St → Int32 → Int32 → Int32 → Int32 → Int32 → Int32 → Option (Int32 × St)) (hk19 : (∀ (σ : St) (y1 : Int32) (y2 : Int32) (y3 : Int32) (y4 : Int32) (y5 : Int32) (y6 : Int32) (H : Heap) (locs : List Loc) (ls : Array Slot), k19 σ y1 y2 y3 y4 y5 y6 = some (r, σ2) → zz (dC, dI) 30 a (wdC cI cZ a σ) s.heap H locs → lv_has ls 9 [(0, .ref (a 11)), (1, .int y1), (2, .int y2), (3, .int y3), (4, .int y4), (5, .int y5), (6, .int y6)] → W p l e rmX2_bringsIsland s m args below meth c H locs 0 0 Q (F0 m 19 ls []))) (σ : St) (y1 : Int32) (y2 : Int32) (y3 : Int32) (y4 : Int32) (y5 : Int32) (y6 : Int32) (y7 : Int32) (t0 : Int32) (H : Heap) (locs : List Loc) (ls : Array Slot), fX2_bringsIsland_b75 k19 σ y1 y2 y3 y4 y5 y6 y7 t0 = some (r, σ2) → zz (dC, dI) 30 a (wdC cI cZ a σ) s.heap H locs → lv_has ls 9 [(0, .ref (a 11)), (1, .int y1), (2, .int y2), (3, .int y3), (4, .int y4), (5, .int y5), (6, .int y6), (7, .int y7)] → W p l e rmX2_bringsIsland s m args below meth c H locs 0 0 Q (F0 m 75 ls [.int t0]) := by
    intro k19 hk19 σ y1 y2 y3 y4 y5 y6 y7 t0 H locs ls h hz hl
    unfold fX2_bringsIsland_b75 at h
    refine lv_istore (lv' := [(8, .int t0), (0, .ref (a 11)), (1, .int y1), (2, .int y2), (3, .int y3), (4, .int y4), (5, .int y5), (6, .int y6), (7, .int y7)]) hx hb dX2_bringsIsland_75 hl (by decide) rfl (fun ls hl => ?_)
    refine lv_iload hx hb dX2_bringsIsland_77 (lv_at hl 0 rfl) ?_
    refine lv_if_eq (tgt := 105) hx hb dX2_bringsIsland_79 (by decide) (fun c23 => ?_) (fun c23 => ?_)
    · replace h := ite_t c23 h
      refine lv_iinc (v := (y6 + (1 : Int32))) (lv' := [(6, .int (y6 + (1 : Int32))), (8, .int t0), (0, .ref (a 11)), (1, .int y1), (2, .int y2), (3, .int y3), (4, .int y4), (5, .int y5), (7, .int y7)]) hx hb dX2_bringsIsland_105 hl (k := 7) rfl rfl (by decide) rfl (fun ls hl => ?_)
      refine lv_goto (tgt := 19) hx hb dX2_bringsIsland_108 (by decide) ?_
      exact hk19 σ y1 y2 y3 y4 y5 (y6 + (1 : Int32)) _ _ _ h hz (lv_sub hl [2, 3, 4, 5, 6, 7, 0] rfl)
    · replace h := ite_f c23 h
      refine lv_iload hx hb dX2_bringsIsland_82 (lv_at hl 8 rfl) ?_
      refine lv_iload_n hx hb dX2_bringsIsland_84 rfl (lv_at hl 4 rfl) ?_
      obtain ⟨r24, e26, h⟩ := bd1_e h
      refine zcallSNi (As := [.int y7, .int y3]) (rest := []) CF hKK (KX5_far (dC := dC) (dI := dI) (cI := cI) (cZ := cZ) (a := a) hok e26) ⟨va_cnB 2 hts gX2_bringsIsland_X5_far_n142 rfl rfl rfl hKK.2.2.2.2.2.2.2.2.2.2.2.2.2.2.2 (hts _ (List.mem_of_getElem? (i := 11) rfl)) cdX5_far.2 ⟨Nat.le_of_ble_eq_true rfl, Nat.le_of_ble_eq_true rfl⟩, hts _ (List.mem_of_getElem? (i := 10) rfl), trivial⟩ hz rfl hl.1 rfl (Nat.le_of_ble_eq_true rfl) dX2_bringsIsland_85 ⟨Nat.le_refl _, Nat.le_refl _⟩ (fun H locs hz => ?_)
      refine lv_iload hx hb dX2_bringsIsland_88 (lv_at hl 6 rfl) ?_
      refine lv_icmp_ge (tgt := 105) hx hb dX2_bringsIsland_90 (by decide) (fun c27 => ?_) (fun c27 => ?_)
      · replace h := ite_t c27 h
        refine lv_iinc (v := (y6 + (1 : Int32))) (lv' := [(6, .int (y6 + (1 : Int32))), (8, .int t0), (0, .ref (a 11)), (1, .int y1), (2, .int y2), (3, .int y3), (4, .int y4), (5, .int y5), (7, .int y7)]) hx hb dX2_bringsIsland_105 hl (k := 7) rfl rfl (by decide) rfl (fun ls hl => ?_)
        refine lv_goto (tgt := 19) hx hb dX2_bringsIsland_108 (by decide) ?_
        exact hk19 σ y1 y2 y3 y4 y5 (y6 + (1 : Int32)) _ _ _ h hz (lv_sub hl [2, 3, 4, 5, 6, 7, 0] rfl)
      · replace h := ite_f c27 h
        refine lv_iload hx hb dX2_bringsIsland_93 (lv_at hl 7 rfl) ?_
        refine lv_istore (lv' := [(4, .int y6), (8, .int t0), (0, .ref (a 11)), (1, .int y1), (2, .int y2), (3, .int y3), (5, .int y5), (6, .int y6), (7, .int y7)]) hx hb dX2_bringsIsland_95 hl (by decide) rfl (fun ls hl => ?_)
        refine lv_iload hx hb dX2_bringsIsland_97 (lv_at hl 8 rfl) ?_
        refine lv_iload_n hx hb dX2_bringsIsland_99 rfl (lv_at hl 5 rfl) ?_
        obtain ⟨r28, e30, h⟩ := bd1_e h
        refine zcallSNi (As := [.int y7, .int y3]) (rest := []) CF hKK (KX5_far (dC := dC) (dI := dI) (cI := cI) (cZ := cZ) (a := a) hok e30) ⟨va_cnB 2 hts gX2_bringsIsland_X5_far_n142 rfl rfl rfl hKK.2.2.2.2.2.2.2.2.2.2.2.2.2.2.2 (hts _ (List.mem_of_getElem? (i := 11) rfl)) cdX5_far.2 ⟨Nat.le_of_ble_eq_true rfl, Nat.le_of_ble_eq_true rfl⟩, hts _ (List.mem_of_getElem? (i := 10) rfl), trivial⟩ hz rfl hl.1 rfl (Nat.le_of_ble_eq_true rfl) dX2_bringsIsland_100 ⟨Nat.le_refl _, Nat.le_refl _⟩ (fun H locs hz => ?_)
        refine lv_istore (lv' := [(5, .int r28), (4, .int y6), (8, .int t0), (0, .ref (a 11)), (1, .int y1), (2, .int y2), (3, .int y3), (6, .int y6), (7, .int y7)]) hx hb dX2_bringsIsland_103 hl (by decide) rfl (fun ls hl => ?_)
        refine lv_iinc (v := (y6 + (1 : Int32))) (lv' := [(6, .int (y6 + (1 : Int32))), (5, .int r28), (4, .int y6), (8, .int t0), (0, .ref (a 11)), (1, .int y1), (2, .int y2), (3, .int y3), (7, .int y7)]) hx hb dX2_bringsIsland_105 hl (k := 7) rfl rfl (by decide) rfl (fun ls hl => ?_)
        refine lv_goto (tgt := 19) hx hb dX2_bringsIsland_108 (by decide) ?_
        exact hk19 σ y1 y2 y3 y6 r28 (y6 + (1 : Int32)) _ _ _ h hz (lv_sub hl [4, 5, 6, 7, 2, 1, 0] rfl)
  have b74 : ∀ (k19 : St → Int32 → Int32 → Int32 → Int32 → Int32 → Int32 → Option (Int32 × St)) (hk19 : (∀ (σ : St) (y1 : Int32) (y2 : Int32) (y3 : Int32) (y4 : Int32) (y5 : Int32) (y6 : Int32) (H : Heap) (locs : List Loc) (ls : Array Slot), k19 σ y1 y2 y3 y4 y5 y6 = some (r, σ2) → zz (dC, dI) 30 a (wdC cI cZ a σ) s.heap H locs → lv_has ls 9 [(0, .ref (a 11)), (1, .int y1), (2, .int y2), (3, .int y3), (4, .int y4), (5, .int y5), (6, .int y6)] → W p l e rmX2_bringsIsland s m args below meth c H locs 0 0 Q (F0 m 19 ls []))) (σ : St) (y1 : Int32) (y2 : Int32) (y3 : Int32) (y4 : Int32) (y5 : Int32) (y6 : Int32) (y7 : Int32) (H : Heap) (locs : List Loc) (ls : Array Slot), fX2_bringsIsland_b74 k19 σ y1 y2 y3 y4 y5 y6 y7 = some (r, σ2) → zz (dC, dI) 30 a (wdC cI cZ a σ) s.heap H locs → lv_has ls 9 [(0, .ref (a 11)), (1, .int y1), (2, .int y2), (3, .int y3), (4, .int y4), (5, .int y5), (6, .int y6), (7, .int y7)] → W p l e rmX2_bringsIsland s m args below meth c H locs 0 0 Q (F0 m 74 ls []) := by
    intro k19 hk19 σ y1 y2 y3 y4 y5 y6 y7 H locs ls h hz hl
    unfold fX2_bringsIsland_b74 at h
    refine lv_iconst (v := (0 : Int32)) hx hb dX2_bringsIsland_74 (by decide) ?_
    exact b75 k19 hk19 σ y1 y2 y3 y4 y5 y6 y7 (0 : Int32) _ _ _ h hz (lv_sub hl [0, 1, 2, 3, 4, 5, 6, 7] rfl)
  have s19 : ∀ (k19 : St → Int32 → Int32 → Int32 → Int32 → Int32 → Int32 → Option (Int32 × St)) (hk19 : (∀ (σ : St) (y1 : Int32) (y2 : Int32) (y3 : Int32) (y4 : Int32) (y5 : Int32) (y6 : Int32) (H : Heap) (locs : List Loc) (ls : Array Slot), k19 σ y1 y2 y3 y4 y5 y6 = some (r, σ2) → zz (dC, dI) 30 a (wdC cI cZ a σ) s.heap H locs → lv_has ls 9 [(0, .ref (a 11)), (1, .int y1), (2, .int y2), (3, .int y3), (4, .int y4), (5, .int y5), (6, .int y6)] → W p l e rmX2_bringsIsland s m args below meth c H locs 0 0 Q (F0 m 19 ls []))) (σ : St) (y1 : Int32) (y2 : Int32) (y3 : Int32) (y4 : Int32) (y5 : Int32) (y6 : Int32) (H : Heap) (locs : List Loc) (ls : Array Slot), fX2_bringsIsland_s19 k19 σ y1 y2 y3 y4 y5 y6 = some (r, σ2) → zz (dC, dI) 30 a (wdC cI cZ a σ) s.heap H locs → lv_has ls 9 [(0, .ref (a 11)), (1, .int y1), (2, .int y2), (3, .int y3), (4, .int y4), (5, .int y5), (6, .int y6)] → W p l e rmX2_bringsIsland s m args below meth c H locs 0 0 Q (F0 m 19 ls []) := by
    intro k19 hk19 σ y1 y2 y3 y4 y5 y6 H locs ls h hz hl
    unfold fX2_bringsIsland_s19 at h
    refine lv_iload hx hb dX2_bringsIsland_19 (lv_at hl 6 rfl) ?_
    refine lv_aload_n hx hb dX2_bringsIsland_21 rfl (lv_at hl 0 rfl) ?_
    refine va_get (v := .ref (a 7)) hx hb hts inX2_bringsIsland_X2 hown hKK.1 hz.1 11 rfl rfl 0 (by decide) (hts _ (List.mem_of_getElem? (i := 1) rfl)) (fun _ h9 => h9) rfl dX2_bringsIsland_22 ?_
    obtain ⟨r7, e9, h⟩ := bd1_e h
    refine zcallVi (As := []) (rest := [.int y6]) CF hKK (KX0_size_p (dC := dC) (dI := dI) (cI := cI) (cZ := cZ) (a := a) hok e9) (cwV 0 hts gX2_bringsIsland_X0_size rfl rfl rfl cdX0_size ⟨Nat.le_of_ble_eq_true rfl, Nat.le_of_ble_eq_true rfl⟩) 7 0 rfl rfl hz rfl hl.1 rfl (Nat.le_of_ble_eq_true rfl) dX2_bringsIsland_25 ⟨Nat.le_refl _, Nat.le_refl _⟩ (fun H locs hz => ?_)
    refine lv_icmp_ge (tgt := 111) hx hb dX2_bringsIsland_28 (by decide) (fun c10 => ?_) (fun c10 => ?_)
    · replace h := ite_t c10 h
      refine lv_iload hx hb dX2_bringsIsland_111 (lv_at hl 4 rfl) ?_
      refine lv_iconst (v := (-1 : Int32)) hx hb dX2_bringsIsland_113 (by decide) ?_
      refine lv_icmp_eq (tgt := 134) hx hb dX2_bringsIsland_114 (by decide) (fun c11 => ?_) (fun c11 => ?_)
      · replace h := ite_t c11 h
        refine lv_iconst (v := (0 : Int32)) hx hb dX2_bringsIsland_134 (by decide) ?_
        exact rt (0 : Int32) σ 135 _ _ _ dX2_bringsIsland_135 h hz (Or.inl rfl)
      · replace h := ite_f c11 h
        refine lv_aload_n hx hb dX2_bringsIsland_117 rfl (lv_at hl 0 rfl) ?_
        refine va_get (v := .ref (a 12)) hx hb hts inX2_bringsIsland_X2 hown hKK.1 hz.1 11 rfl rfl 2 (by decide) (hts _ (List.mem_of_getElem? (i := 2) rfl)) (fun _ h9 => h9) rfl dX2_bringsIsland_118 ?_
        refine lv_iload_n hx hb dX2_bringsIsland_121 rfl (lv_at hl 2 rfl) ?_
        refine lv_iload hx hb dX2_bringsIsland_122 (lv_at hl 4 rfl) ?_
        obtain ⟨r12, s13, e14, h⟩ := bd2_e h
        refine zcallVi (As := [.int y2, .int y4]) (rest := []) CF hKK (KX4_add_i (dC := dC) (dI := dI) (cI := cI) (cZ := cZ) (a := a) hok e14) (cwV 2 hts gX2_bringsIsland_X4_add rfl rfl rfl cdX4_add ⟨Nat.le_of_ble_eq_true rfl, Nat.le_of_ble_eq_true rfl⟩) 12 4 rfl rfl hz rfl hl.1 rfl (Nat.le_of_ble_eq_true rfl) dX2_bringsIsland_124 ⟨Nat.le_refl _, Nat.le_refl _⟩ (fun H locs hz => ?_)
        refine lv_if_eq (tgt := 134) hx hb dX2_bringsIsland_127 (by decide) (fun c15 => ?_) (fun c15 => ?_)
        · replace h := ite_t c15 h
          refine lv_iconst (v := (0 : Int32)) hx hb dX2_bringsIsland_134 (by decide) ?_
          exact rt (0 : Int32) s13 135 _ _ _ dX2_bringsIsland_135 h hz (Or.inl rfl)
        · replace h := ite_f c15 h
          refine lv_iconst (v := (1 : Int32)) hx hb dX2_bringsIsland_130 (by decide) ?_
          refine lv_goto (tgt := 135) hx hb dX2_bringsIsland_131 (by decide) ?_
          exact rt (1 : Int32) s13 135 _ _ _ dX2_bringsIsland_135 h hz (Or.inr rfl)
    · replace h := ite_f c10 h
      refine lv_aload_n hx hb dX2_bringsIsland_31 rfl (lv_at hl 0 rfl) ?_
      refine va_get (v := .ref (a 12)) hx hb hts inX2_bringsIsland_X2 hown hKK.1 hz.1 11 rfl rfl 2 (by decide) (hts _ (List.mem_of_getElem? (i := 2) rfl)) (fun _ h9 => h9) rfl dX2_bringsIsland_32 ?_
      refine lv_iload hx hb dX2_bringsIsland_35 (lv_at hl 6 rfl) ?_
      obtain ⟨r16, e18, h⟩ := bd1_e h
      refine zcallVi (As := [.int y6]) (rest := []) CF hKK (KX4_endOf_i (dC := dC) (dI := dI) (cI := cI) (cZ := cZ) (a := a) hok e18) (cwV 1 hts gX2_bringsIsland_X4_endOf rfl rfl rfl cdX4_endOf ⟨Nat.le_of_ble_eq_true rfl, Nat.le_of_ble_eq_true rfl⟩) 12 4 rfl rfl hz rfl hl.1 rfl (Nat.le_of_ble_eq_true rfl) dX2_bringsIsland_37 ⟨Nat.le_refl _, Nat.le_refl _⟩ (fun H locs hz => ?_)
      refine lv_istore (lv' := [(7, .int r16), (0, .ref (a 11)), (1, .int y1), (2, .int y2), (3, .int y3), (4, .int y4), (5, .int y5), (6, .int y6)]) hx hb dX2_bringsIsland_40 hl (by decide) rfl (fun ls hl => ?_)
      refine lv_aload_n hx hb dX2_bringsIsland_42 rfl (lv_at hl 1 rfl) ?_
      refine va_get (v := .ref (a 7)) hx hb hts inX2_bringsIsland_X2 hown hKK.1 hz.1 11 rfl rfl 0 (by decide) (hts _ (List.mem_of_getElem? (i := 1) rfl)) (fun _ h9 => h9) rfl dX2_bringsIsland_43 ?_
      refine lv_iload hx hb dX2_bringsIsland_46 (lv_at hl 7 rfl) ?_
      obtain ⟨r19, e21, h⟩ := bd1_e h
      refine zcallVi (As := [.int y6]) (rest := []) CF hKK (KX0_kindOf_p (dC := dC) (dI := dI) (cI := cI) (cZ := cZ) (a := a) hok e21) (cwV 1 hts gX2_bringsIsland_X0_kindOf rfl rfl rfl cdX0_kindOf ⟨Nat.le_of_ble_eq_true rfl, Nat.le_of_ble_eq_true rfl⟩) 7 0 rfl rfl hz rfl hl.1 rfl (Nat.le_of_ble_eq_true rfl) dX2_bringsIsland_48 ⟨Nat.le_refl _, Nat.le_refl _⟩ (fun H locs hz => ?_)
      refine lv_iconst (v := (5 : Int32)) hx hb dX2_bringsIsland_51 (by decide) ?_
      refine lv_icmp_ne (tgt := 74) hx hb dX2_bringsIsland_52 (by decide) (fun c22 => ?_) (fun c22 => ?_)
      · replace h := ite_f c22 h
        exact b74 k19 hk19 σ y1 y2 y3 y4 y5 y6 r16 _ _ _ h hz (lv_sub hl [1, 2, 3, 4, 5, 6, 7, 0] rfl)
      · replace h := ite_t c22 h
        refine lv_iload hx hb dX2_bringsIsland_55 (lv_at hl 0 rfl) ?_
        refine lv_iload_n hx hb dX2_bringsIsland_57 rfl (lv_at hl 2 rfl) ?_
        obtain ⟨r31, e33, h⟩ := bd1_e h
        refine zcallSNi (As := [.int r16, .int y1]) (rest := []) CF hKK (KX5_far (dC := dC) (dI := dI) (cI := cI) (cZ := cZ) (a := a) hok e33) ⟨va_cnB 2 hts gX2_bringsIsland_X5_far_n142 rfl rfl rfl hKK.2.2.2.2.2.2.2.2.2.2.2.2.2.2.2 (hts _ (List.mem_of_getElem? (i := 11) rfl)) cdX5_far.2 ⟨Nat.le_of_ble_eq_true rfl, Nat.le_of_ble_eq_true rfl⟩, hts _ (List.mem_of_getElem? (i := 10) rfl), trivial⟩ hz rfl hl.1 rfl (Nat.le_of_ble_eq_true rfl) dX2_bringsIsland_58 ⟨Nat.le_refl _, Nat.le_refl _⟩ (fun H locs hz => ?_)
        refine lv_aload_n hx hb dX2_bringsIsland_61 rfl (lv_at hl 1 rfl) ?_
        refine va_get (v := .ref (a 10)) hx hb hts inX2_bringsIsland_X2 hown hKK.1 hz.1 11 rfl rfl 1 (by decide) (hts _ (List.mem_of_getElem? (i := 3) rfl)) (fun _ h9 => h9) rfl dX2_bringsIsland_62 ?_
        refine lv_iconst (v := (1 : Int32)) hx hb dX2_bringsIsland_65 (by decide) ?_
        refine va_iald (f := (σ 10)) hx hb hKK.1 hz.1 10 0 rfl rfl (by decide : vp_inD (1 : Int32) 3) dX2_bringsIsland_66 ?_
        refine lv_icmp_gt (tgt := 74) hx hb dX2_bringsIsland_67 (by decide) (fun c34 => ?_) (fun c34 => ?_)
        · replace h := ite_t c34 h
          exact b74 k19 hk19 σ y1 y2 y3 y4 y5 y6 r16 _ _ _ h hz (lv_sub hl [1, 2, 3, 4, 5, 6, 7, 0] rfl)
        · replace h := ite_f c34 h
          refine lv_iconst (v := (1 : Int32)) hx hb dX2_bringsIsland_70 (by decide) ?_
          refine lv_goto (tgt := 75) hx hb dX2_bringsIsland_71 (by decide) ?_
          exact b75 k19 hk19 σ y1 y2 y3 y4 y5 y6 r16 (1 : Int32) _ _ _ h hz (lv_sub hl [1, 2, 3, 4, 5, 6, 7, 0] rfl)
  have l19 : ∀  (n : Nat), ∀ (σ : St) (y1 : Int32) (y2 : Int32) (y3 : Int32) (y4 : Int32) (y5 : Int32) (y6 : Int32) (H : Heap) (locs : List Loc) (ls : Array Slot), fX2_bringsIsland_l19  n σ y1 y2 y3 y4 y5 y6 = some (r, σ2) → zz (dC, dI) 30 a (wdC cI cZ a σ) s.heap H locs → lv_has ls 9 [(0, .ref (a 11)), (1, .int y1), (2, .int y2), (3, .int y3), (4, .int y4), (5, .int y5), (6, .int y6)] → W p l e rmX2_bringsIsland s m args below meth c H locs 0 0 Q (F0 m 19 ls []) := by
    intro  n
    induction n with
    | zero => intro σ y1 y2 y3 y4 y5 y6 H locs ls h; exact nomatch h
    | succ n ih => exact s19  (fX2_bringsIsland_l19  n) ih
  unfold fX2_bringsIsland at h
  refine lv_aload_n hx hb dX2_bringsIsland_0 rfl (lv_at hl 0 rfl) ?_
  refine lv_iload_n hx hb dX2_bringsIsland_1 rfl (lv_at hl 2 rfl) ?_
  obtain ⟨r1, e3, h⟩ := bd1_e h
  refine zcallVi (As := [.int x2]) (rest := []) CF hKK (KX2_labelAddress (dC := dC) (dI := dI) (cI := cI) (cZ := cZ) (a := a) hok e3) (cwV 1 hts gX2_bringsIsland_X2_labelAddress rfl rfl rfl cdX2_labelAddress ⟨Nat.le_of_ble_eq_true rfl, Nat.le_of_ble_eq_true rfl⟩) 11 2 rfl rfl hz rfl hl.1 rfl (Nat.le_of_ble_eq_true rfl) dX2_bringsIsland_2 ⟨Nat.le_refl _, Nat.le_refl _⟩ (fun H locs hz => ?_)
  refine lv_istore_n (lv' := [(3, .int r1), (0, .ref (a 11)), (1, .int x1), (2, .int x2)]) hx hb dX2_bringsIsland_5 rfl hl (by decide) rfl (fun ls hl => ?_)
  refine lv_iconst (v := (-1 : Int32)) hx hb dX2_bringsIsland_6 (by decide) ?_
  refine lv_istore (lv' := [(4, .int (-1 : Int32)), (3, .int r1), (0, .ref (a 11)), (1, .int x1), (2, .int x2)]) hx hb dX2_bringsIsland_7 hl (by decide) rfl (fun ls hl => ?_)
  refine lv_iload_n hx hb dX2_bringsIsland_9 rfl (lv_at hl 3 rfl) ?_
  refine lv_iload_n hx hb dX2_bringsIsland_10 rfl (lv_at hl 1 rfl) ?_
  obtain ⟨r4, e6, h⟩ := bd1_e h
  refine zcallSNi (As := [.int x1, .int r1]) (rest := []) CF hKK (KX5_far (dC := dC) (dI := dI) (cI := cI) (cZ := cZ) (a := a) hok e6) ⟨va_cnB 2 hts gX2_bringsIsland_X5_far_n142 rfl rfl rfl hKK.2.2.2.2.2.2.2.2.2.2.2.2.2.2.2 (hts _ (List.mem_of_getElem? (i := 11) rfl)) cdX5_far.2 ⟨Nat.le_of_ble_eq_true rfl, Nat.le_of_ble_eq_true rfl⟩, hts _ (List.mem_of_getElem? (i := 10) rfl), trivial⟩ hz rfl hl.1 rfl (Nat.le_of_ble_eq_true rfl) dX2_bringsIsland_11 ⟨Nat.le_refl _, Nat.le_refl _⟩ (fun H locs hz => ?_)
  refine lv_istore (lv' := [(5, .int r4), (4, .int (-1 : Int32)), (3, .int r1), (0, .ref (a 11)), (1, .int x1), (2, .int x2)]) hx hb dX2_bringsIsland_14 hl (by decide) rfl (fun ls hl => ?_)
  refine lv_iconst (v := (0 : Int32)) hx hb dX2_bringsIsland_16 (by decide) ?_
  refine lv_istore (lv' := [(6, .int (0 : Int32)), (5, .int r4), (4, .int (-1 : Int32)), (3, .int r1), (0, .ref (a 11)), (1, .int x1), (2, .int x2)]) hx hb dX2_bringsIsland_17 hl (by decide) rfl (fun ls hl => ?_)
  exact l19  FU σ x1 x2 r1 (-1 : Int32) r4 (0 : Int32) _ _ _ h hz (lv_sub hl [4, 5, 6, 3, 2, 1, 0] rfl)
def fX2_islandAimOf (σ : St) (x1 : Int32) : Option (Int32) :=
  (if x1 < 0 then (some (-1 : Int32)) else ((if (12 : Int32) ≤ x1 then (some (-1 : Int32)) else ((ck (¬ (x1 < 0 ∨ 12 ≤ Int32.toNatClampNeg x1)) <| some ((σ 29) (Int32.toNatClampNeg x1)))))))
abbrev rmX2_islandAimOf : Room := { frames := 0, cells := 0, slots := 0, locals := 0 }
set_option maxHeartbeats 4000000 in
set_option maxRecDepth 100000 in
theorem KX2_islandAimOf {l : Launch} {dC : Nat → ClassId} {dI : Nat → Nat → Nat} {cI cZ : ClassId} {a : Nat → Nat} {σ : St} {x1 : Int32} {r : Int32} (hok : okA 30 a) (h : fX2_islandAimOf σ x1 = some r) (sz : Nat) : Met l yX2_islandAimOf wsX2_islandAimOf rmX2_islandAimOf (Pz (dC, dI) cI cZ (wdC cI cZ a σ) sz [.ref (a 11), .int x1]) (Qzi (dC, dI) 30 a (wdC cI cZ a σ) sz r) 0 0 (aN 30 a sz) := by
  refine Met.ofW (cc := cX2_islandAimOf) (maxL := 2) (ret := (some .int)) (by decide) rfl ?_
  intro p e s m args below meth c s₁ B hml hv
  obtain ⟨hav, hsz, hP, hKK⟩ := hv
  have hx := B.exec
  have hb := B.bytes
  have hr := B.returns
  have hts := atoms_spec (ws := wsX2_islandAimOf) B.pre
  have hown : s.vm.findClass RX2 = some m.cls := findClass_of_methodNamed B.named
  have hlocks := B.notSynchronized
  have CF : CallFix p m c cX2_islandAimOf 2 s args wsX2_islandAimOf RX2 := ⟨hx, hb, hml, hown, hts⟩
  have hz : zz (dC, dI) 30 a (wdC cI cZ a σ) s.heap s.heap [] := ⟨hP, va_S.rf⟩
  have hl := lv_entry [.ref (a 11), .int x1] (n := 2) (Nat.le_of_ble_eq_true rfl)
  have hen : entryFrame m args 2 = entryFrame m ([.ref (a 11), .int x1] : List Value).toArray 2 := by rw [hav]
  rw [hen, lg_entry_eq]
  generalize (lg_sl [.ref (a 11), .int x1] ++ List.replicate (2 - (lg_sl [.ref (a 11), .int x1]).length) Slot.unset).toArray = ls at hl ⊢
  have hl : lv_has ls 2 [(0, .ref (a 11)), (1, .int x1)] := hl
  have eR : (headSpec wsX2_islandAimOf rmX2_islandAimOf).room = rmX2_islandAimOf := rfl
  rw [eR]
  have rt : ∀ (v : Int32) (t : St) (pc : Nat) (H : Heap) (locs : List Loc) (ls : Array Slot), decode cX2_islandAimOf pc = .ok (.ireturn, 1) → some v = some r → zz (dC, dI) 30 a (wdC cI cZ a σ) s.heap H locs → W p l e rmX2_islandAimOf s m args below meth c H locs 0 0 (MQ below (Qzi (dC, dI) 30 a (wdC cI cZ a σ) sz r) args s 0 0 (aN 30 a sz)) (F0 m pc ls [.int v]) := by
    intro v t pc H locs ls hd h hz
    cases h
    exact ziret hsz hx hb hr hlocks hz hd
  generalize (MQ below (Qzi (dC, dI) 30 a (wdC cI cZ a σ) sz r) args s 0 0 (aN 30 a sz)) = Q at rt ⊢
  unfold fX2_islandAimOf at h
  refine lv_iload_n hx hb dX2_islandAimOf_0 rfl (lv_at hl 1 rfl) ?_
  refine lv_if_lt (tgt := 22) hx hb dX2_islandAimOf_1 (by decide) (fun c1 => ?_) (fun c1 => ?_)
  · replace h := ite_t c1 h
    refine lv_iconst (v := (-1 : Int32)) hx hb dX2_islandAimOf_22 (by decide) ?_
    exact rt (-1 : Int32) σ 23 _ _ _ dX2_islandAimOf_23 h hz
  · replace h := ite_f c1 h
    refine lv_iload_n hx hb dX2_islandAimOf_4 rfl (lv_at hl 1 rfl) ?_
    refine lv_aload_n hx hb dX2_islandAimOf_5 rfl (lv_at hl 0 rfl) ?_
    refine va_get (v := .ref (a 29)) hx hb hts inX2_islandAimOf_X2 hown hKK.1 hz.1 11 rfl rfl 9 (by decide) (hts _ (List.mem_of_getElem? (i := 1) rfl)) (fun _ h9 => h9) rfl dX2_islandAimOf_6 ?_
    refine va_alen (v := (12 : Int32)) hx hb hKK.1 hz.1 29 0 rfl rfl rfl dX2_islandAimOf_9 ?_
    refine lv_icmp_ge (tgt := 22) hx hb dX2_islandAimOf_10 (by decide) (fun c2 => ?_) (fun c2 => ?_)
    · replace h := ite_t c2 h
      refine lv_iconst (v := (-1 : Int32)) hx hb dX2_islandAimOf_22 (by decide) ?_
      exact rt (-1 : Int32) σ 23 _ _ _ dX2_islandAimOf_23 h hz
    · replace h := ite_f c2 h
      refine lv_aload_n hx hb dX2_islandAimOf_13 rfl (lv_at hl 0 rfl) ?_
      refine va_get (v := .ref (a 29)) hx hb hts inX2_islandAimOf_X2 hown hKK.1 hz.1 11 rfl rfl 9 (by decide) (hts _ (List.mem_of_getElem? (i := 1) rfl)) (fun _ h9 => h9) rfl dX2_islandAimOf_14 ?_
      refine lv_iload_n hx hb dX2_islandAimOf_17 rfl (lv_at hl 1 rfl) ?_
      obtain ⟨c3, h⟩ := ck_e h
      refine va_iald (f := (σ 29)) hx hb hKK.1 hz.1 29 0 rfl rfl c3 dX2_islandAimOf_18 ?_
      refine lv_goto (tgt := 23) hx hb dX2_islandAimOf_19 (by decide) ?_
      exact rt ((σ 29) (Int32.toNatClampNeg x1)) σ 23 _ _ _ dX2_islandAimOf_23 h hz
def fX2_firstIslandAstray_s2 (σ : St) (k2 : Int32 → Option (Int32)) (y1 : Int32) : Option (Int32) :=
  (bd1 (fX4_size_i σ ) fun r1 => (if r1 ≤ y1 then (some (-1 : Int32)) else ((bd1 (fX2_islandAimOf σ y1) fun r5 => (if r5 = (-1 : Int32) then (some y1) else (k2 (y1 + (1 : Int32))))))))
def fX2_firstIslandAstray_l2 (σ : St)  : Nat → Int32 → Option (Int32) :=
  itr (fX2_firstIslandAstray_s2 σ ) (fun _ => none)
def fX2_firstIslandAstray (σ : St)  : Option (Int32) :=
  fX2_firstIslandAstray_l2 σ  FU (0 : Int32)
abbrev rmX2_firstIslandAstray : Room := { frames := 1, cells := 0, slots := 0, locals := 21 }
set_option maxHeartbeats 4000000 in
set_option maxRecDepth 100000 in
theorem KX2_firstIslandAstray {l : Launch} {dC : Nat → ClassId} {dI : Nat → Nat → Nat} {cI cZ : ClassId} {a : Nat → Nat} {σ : St}  {r : Int32} (hok : okA 30 a) (h : fX2_firstIslandAstray σ  = some r) (sz : Nat) : Met l yX2_firstIslandAstray wsX2_firstIslandAstray rmX2_firstIslandAstray (Pz (dC, dI) cI cZ (wdC cI cZ a σ) sz [.ref (a 11)]) (Qzi (dC, dI) 30 a (wdC cI cZ a σ) sz r) 0 0 (aN 30 a sz) := by
  refine Met.ofW (cc := cX2_firstIslandAstray) (maxL := 2) (ret := (some .int)) (by decide) rfl ?_
  intro p e s m args below meth c s₁ B hml hv
  obtain ⟨hav, hsz, hP, hKK⟩ := hv
  have hx := B.exec
  have hb := B.bytes
  have hr := B.returns
  have hts := atoms_spec (ws := wsX2_firstIslandAstray) B.pre
  have hown : s.vm.findClass RX2 = some m.cls := findClass_of_methodNamed B.named
  have hlocks := B.notSynchronized
  have CF : CallFix p m c cX2_firstIslandAstray 2 s args wsX2_firstIslandAstray RX2 := ⟨hx, hb, hml, hown, hts⟩
  have hz : zz (dC, dI) 30 a (wdC cI cZ a σ) s.heap s.heap [] := ⟨hP, va_S.rf⟩
  have hl := lv_entry [.ref (a 11)] (n := 2) (Nat.le_of_ble_eq_true rfl)
  have hen : entryFrame m args 2 = entryFrame m ([.ref (a 11)] : List Value).toArray 2 := by rw [hav]
  rw [hen, lg_entry_eq]
  generalize (lg_sl [.ref (a 11)] ++ List.replicate (2 - (lg_sl [.ref (a 11)]).length) Slot.unset).toArray = ls at hl ⊢
  have hl : lv_has ls 2 [(0, .ref (a 11))] := hl
  have eR : (headSpec wsX2_firstIslandAstray rmX2_firstIslandAstray).room = rmX2_firstIslandAstray := rfl
  rw [eR]
  have rt : ∀ (v : Int32) (t : St) (pc : Nat) (H : Heap) (locs : List Loc) (ls : Array Slot), decode cX2_firstIslandAstray pc = .ok (.ireturn, 1) → some v = some r → zz (dC, dI) 30 a (wdC cI cZ a σ) s.heap H locs → W p l e rmX2_firstIslandAstray s m args below meth c H locs 0 0 (MQ below (Qzi (dC, dI) 30 a (wdC cI cZ a σ) sz r) args s 0 0 (aN 30 a sz)) (F0 m pc ls [.int v]) := by
    intro v t pc H locs ls hd h hz
    cases h
    exact ziret hsz hx hb hr hlocks hz hd
  generalize (MQ below (Qzi (dC, dI) 30 a (wdC cI cZ a σ) sz r) args s 0 0 (aN 30 a sz)) = Q at rt ⊢
  have s2 : ∀ (k2 : Int32 → Option (Int32)) (hk2 : (∀ (y1 : Int32) (H : Heap) (locs : List Loc) (ls : Array Slot), k2 y1 = some r → zz (dC, dI) 30 a (wdC cI cZ a σ) s.heap H locs → lv_has ls 2 [(0, .ref (a 11)), (1, .int y1)] → W p l e rmX2_firstIslandAstray s m args below meth c H locs 0 0 Q (F0 m 2 ls []))) (y1 : Int32) (H : Heap) (locs : List Loc) (ls : Array Slot), fX2_firstIslandAstray_s2 σ k2 y1 = some r → zz (dC, dI) 30 a (wdC cI cZ a σ) s.heap H locs → lv_has ls 2 [(0, .ref (a 11)), (1, .int y1)] → W p l e rmX2_firstIslandAstray s m args below meth c H locs 0 0 Q (F0 m 2 ls []) := by
    intro k2 hk2 y1 H locs ls h hz hl
    unfold fX2_firstIslandAstray_s2 at h
    refine lv_iload_n hx hb dX2_firstIslandAstray_2 rfl (lv_at hl 1 rfl) ?_
    refine lv_aload_n hx hb dX2_firstIslandAstray_3 rfl (lv_at hl 0 rfl) ?_
    refine va_get (v := .ref (a 12)) hx hb hts inX2_firstIslandAstray_X2 hown hKK.1 hz.1 11 rfl rfl 2 (by decide) (hts _ (List.mem_of_getElem? (i := 1) rfl)) (fun _ h9 => h9) rfl dX2_firstIslandAstray_4 ?_
    obtain ⟨r1, e3, h⟩ := bd1_e h
    refine zcallVi (As := []) (rest := [.int y1]) CF hKK (KX4_size_i (dC := dC) (dI := dI) (cI := cI) (cZ := cZ) (a := a) hok e3) (cwV 0 hts gX2_firstIslandAstray_X4_size rfl rfl rfl cdX4_size ⟨Nat.le_of_ble_eq_true rfl, Nat.le_of_ble_eq_true rfl⟩) 12 4 rfl rfl hz rfl hl.1 rfl (Nat.le_of_ble_eq_true rfl) dX2_firstIslandAstray_7 ⟨Nat.le_refl _, Nat.le_refl _⟩ (fun H locs hz => ?_)
    refine lv_icmp_ge (tgt := 30) hx hb dX2_firstIslandAstray_10 (by decide) (fun c4 => ?_) (fun c4 => ?_)
    · replace h := ite_t c4 h
      refine lv_iconst (v := (-1 : Int32)) hx hb dX2_firstIslandAstray_30 (by decide) ?_
      exact rt (-1 : Int32) σ 31 _ _ _ dX2_firstIslandAstray_31 h hz
    · replace h := ite_f c4 h
      refine lv_aload_n hx hb dX2_firstIslandAstray_13 rfl (lv_at hl 0 rfl) ?_
      refine lv_iload_n hx hb dX2_firstIslandAstray_14 rfl (lv_at hl 1 rfl) ?_
      obtain ⟨r5, e7, h⟩ := bd1_e h
      refine zcallVi (As := [.int y1]) (rest := []) CF hKK (KX2_islandAimOf (dC := dC) (dI := dI) (cI := cI) (cZ := cZ) (a := a) hok e7) (cwV 1 hts gX2_firstIslandAstray_X2_islandAimOf rfl rfl rfl cdX2_islandAimOf ⟨Nat.le_of_ble_eq_true rfl, Nat.le_of_ble_eq_true rfl⟩) 11 2 rfl rfl hz rfl hl.1 rfl (Nat.le_of_ble_eq_true rfl) dX2_firstIslandAstray_15 ⟨Nat.le_refl _, Nat.le_refl _⟩ (fun H locs hz => ?_)
      refine lv_iconst (v := (-1 : Int32)) hx hb dX2_firstIslandAstray_18 (by decide) ?_
      refine lv_icmp_ne (tgt := 24) hx hb dX2_firstIslandAstray_19 (by decide) (fun c8 => ?_) (fun c8 => ?_)
      · replace h := ite_f c8 h
        refine lv_iinc (v := (y1 + (1 : Int32))) (lv' := [(1, .int (y1 + (1 : Int32))), (0, .ref (a 11))]) hx hb dX2_firstIslandAstray_24 hl (k := 1) rfl rfl (by decide) rfl (fun ls hl => ?_)
        refine lv_goto (tgt := 2) hx hb dX2_firstIslandAstray_27 (by decide) ?_
        exact hk2 (y1 + (1 : Int32)) _ _ _ h hz (lv_sub hl [1, 0] rfl)
      · replace h := ite_t c8 h
        refine lv_iload_n hx hb dX2_firstIslandAstray_22 rfl (lv_at hl 1 rfl) ?_
        exact rt y1 σ 23 _ _ _ dX2_firstIslandAstray_23 h hz
  have l2 : ∀  (n : Nat), ∀ (y1 : Int32) (H : Heap) (locs : List Loc) (ls : Array Slot), fX2_firstIslandAstray_l2 σ  n y1 = some r → zz (dC, dI) 30 a (wdC cI cZ a σ) s.heap H locs → lv_has ls 2 [(0, .ref (a 11)), (1, .int y1)] → W p l e rmX2_firstIslandAstray s m args below meth c H locs 0 0 Q (F0 m 2 ls []) := by
    intro  n
    induction n with
    | zero => intro y1 H locs ls h; exact nomatch h
    | succ n ih => exact s2  (fX2_firstIslandAstray_l2 σ  n) ih
  unfold fX2_firstIslandAstray at h
  refine lv_iconst (v := (0 : Int32)) hx hb dX2_firstIslandAstray_0 (by decide) ?_
  refine lv_istore_n (lv' := [(1, .int (0 : Int32)), (0, .ref (a 11))]) hx hb dX2_firstIslandAstray_1 rfl hl (by decide) rfl (fun ls hl => ?_)
  exact l2  FU (0 : Int32) _ _ _ h hz (lv_sub hl [1, 0] rfl)
def fX2_mendsOne (σ : St)  : Option (Int32 × St) :=
  (bd1 (fX2_firstAstray σ (2 : Int32) (0 : Int32)) fun r1 => (if r1 = (-1 : Int32) then ((bd1 (fX2_firstAstray σ (1 : Int32) (0 : Int32)) fun r5 => (if r5 = (-1 : Int32) then ((bd1 (fX2_firstAstray σ (2 : Int32) (1 : Int32)) fun r9 => (if r9 = (-1 : Int32) then ((bd1 (fX2_firstIslandAstray σ ) fun r13 => (if r13 = (-1 : Int32) then (some ((0 : Int32), σ)) else ((bd1 (fX4_addressOf_i σ r13) fun r17 => (bd1 (fX4_nameOf_i σ r13) fun r20 => (bd2 (fX2_bringsIsland σ r17 r20) fun r23 s24 => (if r23 = 0 then ((bd2 (fX2_fails s24 (3 : Int32) r13) fun r27 s28 => (if r27 = 0 then (some ((0 : Int32), s28)) else (some ((1 : Int32), s28))))) else (some ((1 : Int32), s24)))))))))) else ((bd1 (fX2_addressOf σ r9) fun r31 => (bd1 (fX0_toldOf_p σ r9) fun r34 => (bd2 (fX2_bringsIsland σ r31 r34) fun r37 s38 => (if r37 = 0 then ((bd2 (fX2_fails s38 (2 : Int32) r9) fun r41 s42 => (if r41 = 0 then (some ((0 : Int32), s42)) else (some ((1 : Int32), s42))))) else (some ((1 : Int32), s38)))))))))) else ((bd2 (fX2_bringsConstant σ r5) fun r45 s46 => (if r45 = 0 then ((bd2 (fX2_fails s46 (1 : Int32) r5) fun r49 s50 => (if r49 = 0 then (some ((0 : Int32), s50)) else (some ((1 : Int32), s50))))) else (some ((1 : Int32), s46)))))))) else ((bd2 (fX2_lengthens σ r1) fun r53 s54 => (ck (r53 = 0 ∨ r53 = 1) <| some (r53, s54))))))
abbrev rmX2_mendsOne : Room := { frames := 4, cells := 0, slots := 0, locals := 87 }
set_option maxHeartbeats 4000000 in
set_option maxRecDepth 100000 in
theorem KX2_mendsOne {l : Launch} {dC : Nat → ClassId} {dI : Nat → Nat → Nat} {cI cZ : ClassId} {a : Nat → Nat} {σ : St}  {r : Int32} {σ2 : St} (hok : okA 30 a) (h : fX2_mendsOne σ  = some (r, σ2)) (sz : Nat) : Met l yX2_mendsOne wsX2_mendsOne rmX2_mendsOne (Pz (dC, dI) cI cZ (wdC cI cZ a σ) sz [.ref (a 11)]) (Qzi (dC, dI) 30 a (wdC cI cZ a σ2) sz r) 0 0 (aN 30 a sz) := by
  refine Met.ofW (cc := cX2_mendsOne) (maxL := 2) (ret := (some .boolean)) (by decide) rfl ?_
  intro p e s m args below meth c s₁ B hml hv
  obtain ⟨hav, hsz, hP, hKK⟩ := hv
  have hx := B.exec
  have hb := B.bytes
  have hr := B.returns
  have hts := atoms_spec (ws := wsX2_mendsOne) B.pre
  have hown : s.vm.findClass RX2 = some m.cls := findClass_of_methodNamed B.named
  have hlocks := B.notSynchronized
  have CF : CallFix p m c cX2_mendsOne 2 s args wsX2_mendsOne RX2 := ⟨hx, hb, hml, hown, hts⟩
  have hz : zz (dC, dI) 30 a (wdC cI cZ a σ) s.heap s.heap [] := ⟨hP, va_S.rf⟩
  have hl := lv_entry [.ref (a 11)] (n := 2) (Nat.le_of_ble_eq_true rfl)
  have hen : entryFrame m args 2 = entryFrame m ([.ref (a 11)] : List Value).toArray 2 := by rw [hav]
  rw [hen, lg_entry_eq]
  generalize (lg_sl [.ref (a 11)] ++ List.replicate (2 - (lg_sl [.ref (a 11)]).length) Slot.unset).toArray = ls at hl ⊢
  have hl : lv_has ls 2 [(0, .ref (a 11))] := hl
  have eR : (headSpec wsX2_mendsOne rmX2_mendsOne).room = rmX2_mendsOne := rfl
  rw [eR]
  have rt : ∀ (v : Int32) (t : St) (pc : Nat) (H : Heap) (locs : List Loc) (ls : Array Slot), decode cX2_mendsOne pc = .ok (.ireturn, 1) → some (v, t) = some (r, σ2) → zz (dC, dI) 30 a (wdC cI cZ a t) s.heap H locs → (v = 0 ∨ v = 1) → W p l e rmX2_mendsOne s m args below meth c H locs 0 0 (MQ below (Qzi (dC, dI) 30 a (wdC cI cZ a σ2) sz r) args s 0 0 (aN 30 a sz)) (F0 m pc ls [.int v]) := by
    intro v t pc H locs ls hd h hz hv
    cases h
    exact zzret hsz hx hb hr hlocks hv hz hd
  generalize (MQ below (Qzi (dC, dI) 30 a (wdC cI cZ a σ2) sz r) args s 0 0 (aN 30 a sz)) = Q at rt ⊢
  unfold fX2_mendsOne at h
  refine lv_aload_n hx hb dX2_mendsOne_0 rfl (lv_at hl 0 rfl) ?_
  refine lv_iconst (v := (2 : Int32)) hx hb dX2_mendsOne_1 (by decide) ?_
  refine lv_iconst (v := (0 : Int32)) hx hb dX2_mendsOne_2 (by decide) ?_
  obtain ⟨r1, e3, h⟩ := bd1_e h
  refine zcallVi (As := [.int (2 : Int32), .int (0 : Int32)]) (rest := []) CF hKK (KX2_firstAstray (dC := dC) (dI := dI) (cI := cI) (cZ := cZ) (a := a) hok e3) (cwV 2 hts gX2_mendsOne_X2_firstAstray rfl rfl rfl cdX2_firstAstray ⟨Nat.le_of_ble_eq_true rfl, Nat.le_of_ble_eq_true rfl⟩) 11 2 rfl rfl hz rfl hl.1 rfl (Nat.le_of_ble_eq_true rfl) dX2_mendsOne_3 ⟨Nat.le_refl _, Nat.le_refl _⟩ (fun H locs hz => ?_)
  refine lv_istore_n (lv' := [(1, .int r1), (0, .ref (a 11))]) hx hb dX2_mendsOne_6 rfl hl (by decide) rfl (fun ls hl => ?_)
  refine lv_iload_n hx hb dX2_mendsOne_7 rfl (lv_at hl 0 rfl) ?_
  refine lv_iconst (v := (-1 : Int32)) hx hb dX2_mendsOne_8 (by decide) ?_
  refine lv_icmp_eq (tgt := 18) hx hb dX2_mendsOne_9 (by decide) (fun c4 => ?_) (fun c4 => ?_)
  · replace h := ite_t c4 h
    refine lv_aload_n hx hb dX2_mendsOne_18 rfl (lv_at hl 1 rfl) ?_
    refine lv_iconst (v := (1 : Int32)) hx hb dX2_mendsOne_19 (by decide) ?_
    refine lv_iconst (v := (0 : Int32)) hx hb dX2_mendsOne_20 (by decide) ?_
    obtain ⟨r5, e7, h⟩ := bd1_e h
    refine zcallVi (As := [.int (1 : Int32), .int (0 : Int32)]) (rest := []) CF hKK (KX2_firstAstray (dC := dC) (dI := dI) (cI := cI) (cZ := cZ) (a := a) hok e7) (cwV 2 hts gX2_mendsOne_X2_firstAstray rfl rfl rfl cdX2_firstAstray ⟨Nat.le_of_ble_eq_true rfl, Nat.le_of_ble_eq_true rfl⟩) 11 2 rfl rfl hz rfl hl.1 rfl (Nat.le_of_ble_eq_true rfl) dX2_mendsOne_21 ⟨Nat.le_refl _, Nat.le_refl _⟩ (fun H locs hz => ?_)
    refine lv_istore_n (lv' := [(1, .int r5), (0, .ref (a 11))]) hx hb dX2_mendsOne_24 rfl hl (by decide) rfl (fun ls hl => ?_)
    refine lv_iload_n hx hb dX2_mendsOne_25 rfl (lv_at hl 0 rfl) ?_
    refine lv_iconst (v := (-1 : Int32)) hx hb dX2_mendsOne_26 (by decide) ?_
    refine lv_icmp_eq (tgt := 53) hx hb dX2_mendsOne_27 (by decide) (fun c8 => ?_) (fun c8 => ?_)
    · replace h := ite_t c8 h
      refine lv_aload_n hx hb dX2_mendsOne_53 rfl (lv_at hl 1 rfl) ?_
      refine lv_iconst (v := (2 : Int32)) hx hb dX2_mendsOne_54 (by decide) ?_
      refine lv_iconst (v := (1 : Int32)) hx hb dX2_mendsOne_55 (by decide) ?_
      obtain ⟨r9, e11, h⟩ := bd1_e h
      refine zcallVi (As := [.int (2 : Int32), .int (1 : Int32)]) (rest := []) CF hKK (KX2_firstAstray (dC := dC) (dI := dI) (cI := cI) (cZ := cZ) (a := a) hok e11) (cwV 2 hts gX2_mendsOne_X2_firstAstray rfl rfl rfl cdX2_firstAstray ⟨Nat.le_of_ble_eq_true rfl, Nat.le_of_ble_eq_true rfl⟩) 11 2 rfl rfl hz rfl hl.1 rfl (Nat.le_of_ble_eq_true rfl) dX2_mendsOne_56 ⟨Nat.le_refl _, Nat.le_refl _⟩ (fun H locs hz => ?_)
      refine lv_istore_n (lv' := [(1, .int r9), (0, .ref (a 11))]) hx hb dX2_mendsOne_59 rfl hl (by decide) rfl (fun ls hl => ?_)
      refine lv_iload_n hx hb dX2_mendsOne_60 rfl (lv_at hl 0 rfl) ?_
      refine lv_iconst (v := (-1 : Int32)) hx hb dX2_mendsOne_61 (by decide) ?_
      refine lv_icmp_eq (tgt := 100) hx hb dX2_mendsOne_62 (by decide) (fun c12 => ?_) (fun c12 => ?_)
      · replace h := ite_t c12 h
        refine lv_aload_n hx hb dX2_mendsOne_100 rfl (lv_at hl 1 rfl) ?_
        obtain ⟨r13, e15, h⟩ := bd1_e h
        refine zcallVi (As := []) (rest := []) CF hKK (KX2_firstIslandAstray (dC := dC) (dI := dI) (cI := cI) (cZ := cZ) (a := a) hok e15) (cwV 0 hts gX2_mendsOne_X2_firstIslandAstray rfl rfl rfl cdX2_firstIslandAstray ⟨Nat.le_of_ble_eq_true rfl, Nat.le_of_ble_eq_true rfl⟩) 11 2 rfl rfl hz rfl hl.1 rfl (Nat.le_of_ble_eq_true rfl) dX2_mendsOne_101 ⟨Nat.le_refl _, Nat.le_refl _⟩ (fun H locs hz => ?_)
        refine lv_istore_n (lv' := [(1, .int r13), (0, .ref (a 11))]) hx hb dX2_mendsOne_104 rfl hl (by decide) rfl (fun ls hl => ?_)
        refine lv_iload_n hx hb dX2_mendsOne_105 rfl (lv_at hl 0 rfl) ?_
        refine lv_iconst (v := (-1 : Int32)) hx hb dX2_mendsOne_106 (by decide) ?_
        refine lv_icmp_eq (tgt := 148) hx hb dX2_mendsOne_107 (by decide) (fun c16 => ?_) (fun c16 => ?_)
        · replace h := ite_t c16 h
          refine lv_iconst (v := (0 : Int32)) hx hb dX2_mendsOne_148 (by decide) ?_
          exact rt (0 : Int32) σ 149 _ _ _ dX2_mendsOne_149 h hz (Or.inl rfl)
        · replace h := ite_f c16 h
          refine lv_aload_n hx hb dX2_mendsOne_110 rfl (lv_at hl 1 rfl) ?_
          refine lv_aload_n hx hb dX2_mendsOne_111 rfl (lv_at hl 1 rfl) ?_
          refine va_get (v := .ref (a 12)) hx hb hts inX2_mendsOne_X2 hown hKK.1 hz.1 11 rfl rfl 2 (by decide) (hts _ (List.mem_of_getElem? (i := 2) rfl)) (fun _ h9 => h9) rfl dX2_mendsOne_112 ?_
          refine lv_iload_n hx hb dX2_mendsOne_115 rfl (lv_at hl 0 rfl) ?_
          obtain ⟨r17, e19, h⟩ := bd1_e h
          refine zcallVi (As := [.int r13]) (rest := [.ref (a 11)]) CF hKK (KX4_addressOf_i (dC := dC) (dI := dI) (cI := cI) (cZ := cZ) (a := a) hok e19) (cwV 1 hts gX2_mendsOne_X4_addressOf rfl rfl rfl cdX4_addressOf ⟨Nat.le_of_ble_eq_true rfl, Nat.le_of_ble_eq_true rfl⟩) 12 4 rfl rfl hz rfl hl.1 rfl (Nat.le_of_ble_eq_true rfl) dX2_mendsOne_116 ⟨Nat.le_refl _, Nat.le_refl _⟩ (fun H locs hz => ?_)
          refine lv_aload_n hx hb dX2_mendsOne_119 rfl (lv_at hl 1 rfl) ?_
          refine va_get (v := .ref (a 12)) hx hb hts inX2_mendsOne_X2 hown hKK.1 hz.1 11 rfl rfl 2 (by decide) (hts _ (List.mem_of_getElem? (i := 2) rfl)) (fun _ h9 => h9) rfl dX2_mendsOne_120 ?_
          refine lv_iload_n hx hb dX2_mendsOne_123 rfl (lv_at hl 0 rfl) ?_
          obtain ⟨r20, e22, h⟩ := bd1_e h
          refine zcallVi (As := [.int r13]) (rest := [.int r17, .ref (a 11)]) CF hKK (KX4_nameOf_i (dC := dC) (dI := dI) (cI := cI) (cZ := cZ) (a := a) hok e22) (cwV 1 hts gX2_mendsOne_X4_nameOf rfl rfl rfl cdX4_nameOf ⟨Nat.le_of_ble_eq_true rfl, Nat.le_of_ble_eq_true rfl⟩) 12 4 rfl rfl hz rfl hl.1 rfl (Nat.le_of_ble_eq_true rfl) dX2_mendsOne_124 ⟨Nat.le_refl _, Nat.le_refl _⟩ (fun H locs hz => ?_)
          obtain ⟨r23, s24, e25, h⟩ := bd2_e h
          refine zcallVi (As := [.int r17, .int r20]) (rest := []) CF hKK (KX2_bringsIsland (dC := dC) (dI := dI) (cI := cI) (cZ := cZ) (a := a) hok e25) (cwV 2 hts gX2_mendsOne_X2_bringsIsland rfl rfl rfl cdX2_bringsIsland ⟨Nat.le_of_ble_eq_true rfl, Nat.le_of_ble_eq_true rfl⟩) 11 2 rfl rfl hz rfl hl.1 rfl (Nat.le_of_ble_eq_true rfl) dX2_mendsOne_127 ⟨Nat.le_refl _, Nat.le_refl _⟩ (fun H locs hz => ?_)
          refine lv_if_ne (tgt := 142) hx hb dX2_mendsOne_130 (by decide) (fun c26 => ?_) (fun c26 => ?_)
          · replace h := ite_f c26 h
            refine lv_iconst (v := (1 : Int32)) hx hb dX2_mendsOne_142 (by decide) ?_
            refine lv_goto (tgt := 147) hx hb dX2_mendsOne_143 (by decide) ?_
            exact rt (1 : Int32) s24 147 _ _ _ dX2_mendsOne_147 h hz (Or.inr rfl)
          · replace h := ite_t c26 h
            refine lv_aload_n hx hb dX2_mendsOne_133 rfl (lv_at hl 1 rfl) ?_
            refine lv_iconst (v := (3 : Int32)) hx hb dX2_mendsOne_134 (by decide) ?_
            refine lv_iload_n hx hb dX2_mendsOne_135 rfl (lv_at hl 0 rfl) ?_
            obtain ⟨r27, s28, e29, h⟩ := bd2_e h
            refine zcallVi (As := [.int (3 : Int32), .int r13]) (rest := []) CF hKK (KX2_fails (dC := dC) (dI := dI) (cI := cI) (cZ := cZ) (a := a) hok e29) (cwV 2 hts gX2_mendsOne_X2_fails rfl rfl rfl cdX2_fails ⟨Nat.le_of_ble_eq_true rfl, Nat.le_of_ble_eq_true rfl⟩) 11 2 rfl rfl hz rfl hl.1 rfl (Nat.le_of_ble_eq_true rfl) dX2_mendsOne_136 ⟨Nat.le_refl _, Nat.le_refl _⟩ (fun H locs hz => ?_)
            refine lv_if_eq (tgt := 146) hx hb dX2_mendsOne_139 (by decide) (fun c30 => ?_) (fun c30 => ?_)
            · replace h := ite_t c30 h
              refine lv_iconst (v := (0 : Int32)) hx hb dX2_mendsOne_146 (by decide) ?_
              exact rt (0 : Int32) s28 147 _ _ _ dX2_mendsOne_147 h hz (Or.inl rfl)
            · replace h := ite_f c30 h
              refine lv_iconst (v := (1 : Int32)) hx hb dX2_mendsOne_142 (by decide) ?_
              refine lv_goto (tgt := 147) hx hb dX2_mendsOne_143 (by decide) ?_
              exact rt (1 : Int32) s28 147 _ _ _ dX2_mendsOne_147 h hz (Or.inr rfl)
      · replace h := ite_f c12 h
        refine lv_aload_n hx hb dX2_mendsOne_65 rfl (lv_at hl 1 rfl) ?_
        refine lv_aload_n hx hb dX2_mendsOne_66 rfl (lv_at hl 1 rfl) ?_
        refine lv_iload_n hx hb dX2_mendsOne_67 rfl (lv_at hl 0 rfl) ?_
        obtain ⟨r31, e33, h⟩ := bd1_e h
        refine zcallVi (As := [.int r9]) (rest := [.ref (a 11)]) CF hKK (KX2_addressOf (dC := dC) (dI := dI) (cI := cI) (cZ := cZ) (a := a) hok e33) (cwV 1 hts gX2_mendsOne_X2_addressOf rfl rfl rfl cdX2_addressOf ⟨Nat.le_of_ble_eq_true rfl, Nat.le_of_ble_eq_true rfl⟩) 11 2 rfl rfl hz rfl hl.1 rfl (Nat.le_of_ble_eq_true rfl) dX2_mendsOne_68 ⟨Nat.le_refl _, Nat.le_refl _⟩ (fun H locs hz => ?_)
        refine lv_aload_n hx hb dX2_mendsOne_71 rfl (lv_at hl 1 rfl) ?_
        refine va_get (v := .ref (a 7)) hx hb hts inX2_mendsOne_X2 hown hKK.1 hz.1 11 rfl rfl 0 (by decide) (hts _ (List.mem_of_getElem? (i := 1) rfl)) (fun _ h9 => h9) rfl dX2_mendsOne_72 ?_
        refine lv_iload_n hx hb dX2_mendsOne_75 rfl (lv_at hl 0 rfl) ?_
        obtain ⟨r34, e36, h⟩ := bd1_e h
        refine zcallVi (As := [.int r9]) (rest := [.int r31, .ref (a 11)]) CF hKK (KX0_toldOf_p (dC := dC) (dI := dI) (cI := cI) (cZ := cZ) (a := a) hok e36) (cwV 1 hts gX2_mendsOne_X0_toldOf rfl rfl rfl cdX0_toldOf ⟨Nat.le_of_ble_eq_true rfl, Nat.le_of_ble_eq_true rfl⟩) 7 0 rfl rfl hz rfl hl.1 rfl (Nat.le_of_ble_eq_true rfl) dX2_mendsOne_76 ⟨Nat.le_refl _, Nat.le_refl _⟩ (fun H locs hz => ?_)
        obtain ⟨r37, s38, e39, h⟩ := bd2_e h
        refine zcallVi (As := [.int r31, .int r34]) (rest := []) CF hKK (KX2_bringsIsland (dC := dC) (dI := dI) (cI := cI) (cZ := cZ) (a := a) hok e39) (cwV 2 hts gX2_mendsOne_X2_bringsIsland rfl rfl rfl cdX2_bringsIsland ⟨Nat.le_of_ble_eq_true rfl, Nat.le_of_ble_eq_true rfl⟩) 11 2 rfl rfl hz rfl hl.1 rfl (Nat.le_of_ble_eq_true rfl) dX2_mendsOne_79 ⟨Nat.le_refl _, Nat.le_refl _⟩ (fun H locs hz => ?_)
        refine lv_if_ne (tgt := 94) hx hb dX2_mendsOne_82 (by decide) (fun c40 => ?_) (fun c40 => ?_)
        · replace h := ite_f c40 h
          refine lv_iconst (v := (1 : Int32)) hx hb dX2_mendsOne_94 (by decide) ?_
          refine lv_goto (tgt := 99) hx hb dX2_mendsOne_95 (by decide) ?_
          exact rt (1 : Int32) s38 99 _ _ _ dX2_mendsOne_99 h hz (Or.inr rfl)
        · replace h := ite_t c40 h
          refine lv_aload_n hx hb dX2_mendsOne_85 rfl (lv_at hl 1 rfl) ?_
          refine lv_iconst (v := (2 : Int32)) hx hb dX2_mendsOne_86 (by decide) ?_
          refine lv_iload_n hx hb dX2_mendsOne_87 rfl (lv_at hl 0 rfl) ?_
          obtain ⟨r41, s42, e43, h⟩ := bd2_e h
          refine zcallVi (As := [.int (2 : Int32), .int r9]) (rest := []) CF hKK (KX2_fails (dC := dC) (dI := dI) (cI := cI) (cZ := cZ) (a := a) hok e43) (cwV 2 hts gX2_mendsOne_X2_fails rfl rfl rfl cdX2_fails ⟨Nat.le_of_ble_eq_true rfl, Nat.le_of_ble_eq_true rfl⟩) 11 2 rfl rfl hz rfl hl.1 rfl (Nat.le_of_ble_eq_true rfl) dX2_mendsOne_88 ⟨Nat.le_refl _, Nat.le_refl _⟩ (fun H locs hz => ?_)
          refine lv_if_eq (tgt := 98) hx hb dX2_mendsOne_91 (by decide) (fun c44 => ?_) (fun c44 => ?_)
          · replace h := ite_t c44 h
            refine lv_iconst (v := (0 : Int32)) hx hb dX2_mendsOne_98 (by decide) ?_
            exact rt (0 : Int32) s42 99 _ _ _ dX2_mendsOne_99 h hz (Or.inl rfl)
          · replace h := ite_f c44 h
            refine lv_iconst (v := (1 : Int32)) hx hb dX2_mendsOne_94 (by decide) ?_
            refine lv_goto (tgt := 99) hx hb dX2_mendsOne_95 (by decide) ?_
            exact rt (1 : Int32) s42 99 _ _ _ dX2_mendsOne_99 h hz (Or.inr rfl)
    · replace h := ite_f c8 h
      refine lv_aload_n hx hb dX2_mendsOne_30 rfl (lv_at hl 1 rfl) ?_
      refine lv_iload_n hx hb dX2_mendsOne_31 rfl (lv_at hl 0 rfl) ?_
      obtain ⟨r45, s46, e47, h⟩ := bd2_e h
      refine zcallVi (As := [.int r5]) (rest := []) CF hKK (KX2_bringsConstant (dC := dC) (dI := dI) (cI := cI) (cZ := cZ) (a := a) hok e47) (cwV 1 hts gX2_mendsOne_X2_bringsConstant rfl rfl rfl cdX2_bringsConstant ⟨Nat.le_of_ble_eq_true rfl, Nat.le_of_ble_eq_true rfl⟩) 11 2 rfl rfl hz rfl hl.1 rfl (Nat.le_of_ble_eq_true rfl) dX2_mendsOne_32 ⟨Nat.le_refl _, Nat.le_refl _⟩ (fun H locs hz => ?_)
      refine lv_if_ne (tgt := 47) hx hb dX2_mendsOne_35 (by decide) (fun c48 => ?_) (fun c48 => ?_)
      · replace h := ite_f c48 h
        refine lv_iconst (v := (1 : Int32)) hx hb dX2_mendsOne_47 (by decide) ?_
        refine lv_goto (tgt := 52) hx hb dX2_mendsOne_48 (by decide) ?_
        exact rt (1 : Int32) s46 52 _ _ _ dX2_mendsOne_52 h hz (Or.inr rfl)
      · replace h := ite_t c48 h
        refine lv_aload_n hx hb dX2_mendsOne_38 rfl (lv_at hl 1 rfl) ?_
        refine lv_iconst (v := (1 : Int32)) hx hb dX2_mendsOne_39 (by decide) ?_
        refine lv_iload_n hx hb dX2_mendsOne_40 rfl (lv_at hl 0 rfl) ?_
        obtain ⟨r49, s50, e51, h⟩ := bd2_e h
        refine zcallVi (As := [.int (1 : Int32), .int r5]) (rest := []) CF hKK (KX2_fails (dC := dC) (dI := dI) (cI := cI) (cZ := cZ) (a := a) hok e51) (cwV 2 hts gX2_mendsOne_X2_fails rfl rfl rfl cdX2_fails ⟨Nat.le_of_ble_eq_true rfl, Nat.le_of_ble_eq_true rfl⟩) 11 2 rfl rfl hz rfl hl.1 rfl (Nat.le_of_ble_eq_true rfl) dX2_mendsOne_41 ⟨Nat.le_refl _, Nat.le_refl _⟩ (fun H locs hz => ?_)
        refine lv_if_eq (tgt := 51) hx hb dX2_mendsOne_44 (by decide) (fun c52 => ?_) (fun c52 => ?_)
        · replace h := ite_t c52 h
          refine lv_iconst (v := (0 : Int32)) hx hb dX2_mendsOne_51 (by decide) ?_
          exact rt (0 : Int32) s50 52 _ _ _ dX2_mendsOne_52 h hz (Or.inl rfl)
        · replace h := ite_f c52 h
          refine lv_iconst (v := (1 : Int32)) hx hb dX2_mendsOne_47 (by decide) ?_
          refine lv_goto (tgt := 52) hx hb dX2_mendsOne_48 (by decide) ?_
          exact rt (1 : Int32) s50 52 _ _ _ dX2_mendsOne_52 h hz (Or.inr rfl)
  · replace h := ite_f c4 h
    refine lv_aload_n hx hb dX2_mendsOne_12 rfl (lv_at hl 1 rfl) ?_
    refine lv_iload_n hx hb dX2_mendsOne_13 rfl (lv_at hl 0 rfl) ?_
    obtain ⟨r53, s54, e55, h⟩ := bd2_e h
    refine zcallVi (As := [.int r1]) (rest := []) CF hKK (KX2_lengthens (dC := dC) (dI := dI) (cI := cI) (cZ := cZ) (a := a) hok e55) (cwV 1 hts gX2_mendsOne_X2_lengthens rfl rfl rfl cdX2_lengthens ⟨Nat.le_of_ble_eq_true rfl, Nat.le_of_ble_eq_true rfl⟩) 11 2 rfl rfl hz rfl hl.1 rfl (Nat.le_of_ble_eq_true rfl) dX2_mendsOne_14 ⟨Nat.le_refl _, Nat.le_refl _⟩ (fun H locs hz => ?_)
    obtain ⟨c56, h⟩ := ck_e h
    exact rt r53 s54 17 _ _ _ dX2_mendsOne_17 h hz c56
def fX2_placeAll_s17 (k17 : St → Int32 → Option (St)) (σ : St) (y1 : Int32) : Option (St) :=
  (if y1 = 0 then (some σ) else ((if (53 : Int32) ≤ (σ 51 0) then (some σ) else ((bd1 (fX2_lay (si σ 51 ((σ 51 0) + (1 : Int32))) ) fun s11 => (bd1 (fX2_aimItems s11 ) fun s14 => (bd1 (fX2_aimIslands s14 ) fun s17 => (bd2 (fX2_mendsOne s17 ) fun r19 s20 => k17 s20 r19))))))))
def fX2_placeAll_l17  : Nat → St → Int32 → Option (St) :=
  itr (fX2_placeAll_s17 ) (fun _ _ => none)
def fX2_placeAll (σ : St)  : Option (St) :=
  (bd1 (fX2_clear σ ) fun s2 => (bd1 (fX0_size_p s2 ) fun r4 => (if r4 = 0 then (some s2) else (fX2_placeAll_l17  FU s2 (1 : Int32)))))
abbrev rmX2_placeAll : Room := { frames := 5, cells := 0, slots := 0, locals := 117 }
set_option maxHeartbeats 4000000 in
set_option maxRecDepth 100000 in
theorem KX2_placeAll {l : Launch} {dC : Nat → ClassId} {dI : Nat → Nat → Nat} {cI cZ : ClassId} {a : Nat → Nat} {σ : St}  {σ2 : St} (hok : okA 30 a) (h : fX2_placeAll σ  = some σ2) (sz : Nat) : Met l yX2_placeAll wsX2_placeAll rmX2_placeAll (Pz (dC, dI) cI cZ (wdC cI cZ a σ) sz [.ref (a 11)]) (Qzv (dC, dI) 30 a (wdC cI cZ a σ2) sz) 0 0 (aN 30 a sz) := by
  refine Met.ofW (cc := cX2_placeAll) (maxL := 2) (ret := none) (by decide) rfl ?_
  intro p e s m args below meth c s₁ B hml hv
  obtain ⟨hav, hsz, hP, hKK⟩ := hv
  have hx := B.exec
  have hb := B.bytes
  have hr := B.returns
  have hts := atoms_spec (ws := wsX2_placeAll) B.pre
  have hown : s.vm.findClass RX2 = some m.cls := findClass_of_methodNamed B.named
  have hlocks := B.notSynchronized
  have CF : CallFix p m c cX2_placeAll 2 s args wsX2_placeAll RX2 := ⟨hx, hb, hml, hown, hts⟩
  have hz : zz (dC, dI) 30 a (wdC cI cZ a σ) s.heap s.heap [] := ⟨hP, va_S.rf⟩
  have hl := lv_entry [.ref (a 11)] (n := 2) (Nat.le_of_ble_eq_true rfl)
  have hen : entryFrame m args 2 = entryFrame m ([.ref (a 11)] : List Value).toArray 2 := by rw [hav]
  rw [hen, lg_entry_eq]
  generalize (lg_sl [.ref (a 11)] ++ List.replicate (2 - (lg_sl [.ref (a 11)]).length) Slot.unset).toArray = ls at hl ⊢
  have hl : lv_has ls 2 [(0, .ref (a 11))] := hl
  have eR : (headSpec wsX2_placeAll rmX2_placeAll).room = rmX2_placeAll := rfl
  rw [eR]
  have rt : ∀ (t : St) (pc : Nat) (H : Heap) (locs : List Loc) (ls : Array Slot), decode cX2_placeAll pc = .ok (.return_, 1) → some t = some σ2 → zz (dC, dI) 30 a (wdC cI cZ a t) s.heap H locs → W p l e rmX2_placeAll s m args below meth c H locs 0 0 (MQ below (Qzv (dC, dI) 30 a (wdC cI cZ a σ2) sz) args s 0 0 (aN 30 a sz)) (F0 m pc ls []) := by
    intro t pc H locs ls hd h hz
    cases h
    exact zvret hsz hx hb hr hlocks hz hd
  generalize (MQ below (Qzv (dC, dI) 30 a (wdC cI cZ a σ2) sz) args s 0 0 (aN 30 a sz)) = Q at rt ⊢
  have s17 : ∀ (k17 : St → Int32 → Option (St)) (hk17 : (∀ (σ : St) (y1 : Int32) (H : Heap) (locs : List Loc) (ls : Array Slot), k17 σ y1 = some σ2 → zz (dC, dI) 30 a (wdC cI cZ a σ) s.heap H locs → lv_has ls 2 [(0, .ref (a 11)), (1, .int y1)] → W p l e rmX2_placeAll s m args below meth c H locs 0 0 Q (F0 m 17 ls []))) (σ : St) (y1 : Int32) (H : Heap) (locs : List Loc) (ls : Array Slot), fX2_placeAll_s17 k17 σ y1 = some σ2 → zz (dC, dI) 30 a (wdC cI cZ a σ) s.heap H locs → lv_has ls 2 [(0, .ref (a 11)), (1, .int y1)] → W p l e rmX2_placeAll s m args below meth c H locs 0 0 Q (F0 m 17 ls []) := by
    intro k17 hk17 σ y1 H locs ls h hz hl
    unfold fX2_placeAll_s17 at h
    refine lv_iload_n hx hb dX2_placeAll_17 rfl (lv_at hl 1 rfl) ?_
    refine lv_if_eq (tgt := 60) hx hb dX2_placeAll_18 (by decide) (fun c8 => ?_) (fun c8 => ?_)
    · replace h := ite_t c8 h
      exact rt σ 60 _ _ _ dX2_placeAll_60 h hz
    · replace h := ite_f c8 h
      refine lv_aload_n hx hb dX2_placeAll_21 rfl (lv_at hl 0 rfl) ?_
      refine va_get (v := .int (σ 51 0)) hx hb hts inX2_placeAll_X2 hown hKK.1 hz.1 11 rfl rfl 11 (by decide) (hts _ (List.mem_of_getElem? (i := 2) rfl)) (fun _ h9 => h9) rfl dX2_placeAll_22 ?_
      refine lv_bipush (v := (53 : Int32)) hx hb dX2_placeAll_25 (by decide) ?_
      refine lv_icmp_ge (tgt := 60) hx hb dX2_placeAll_27 (by decide) (fun c9 => ?_) (fun c9 => ?_)
      · replace h := ite_t c9 h
        exact rt σ 60 _ _ _ dX2_placeAll_60 h hz
      · replace h := ite_f c9 h
        refine lv_aload_n hx hb dX2_placeAll_30 rfl (lv_at hl 0 rfl) ?_
        refine lv_dup hx hb dX2_placeAll_31 rfl ?_
        refine va_get (v := .int (σ 51 0)) hx hb hts inX2_placeAll_X2 hown hKK.1 hz.1 11 rfl rfl 11 (by decide) (hts _ (List.mem_of_getElem? (i := 2) rfl)) (fun _ h9 => h9) rfl dX2_placeAll_32 ?_
        refine lv_iconst (v := (1 : Int32)) hx hb dX2_placeAll_35 (by decide) ?_
        refine lv_iadd hx hb dX2_placeAll_36 ?_
        refine zput (ty := .int) (w' := wdC cI cZ a (si σ 51 ((σ 51 0) + (1 : Int32)))) hx hb hts inX2_placeAll_X2 tyX2 tyX2_ok nmX2 hown hKK hok wkC hz 11 rfl rfl 11 (by decide) (hts _ (List.mem_of_getElem? (i := 2) rfl)) (fun _ h9 => h9) rfl rfl rfl rfl (Nat.le_of_ble_eq_true rfl) setCi_51 dX2_placeAll_37 (fun H locs hz => ?_)
        refine lv_aload_n hx hb dX2_placeAll_40 rfl (lv_at hl 0 rfl) ?_
        obtain ⟨s11, e12, h⟩ := bd1_e h
        refine zcallVv (As := []) (rest := []) CF hKK (KX2_lay (dC := dC) (dI := dI) (cI := cI) (cZ := cZ) (a := a) hok e12) (cwV 0 hts gX2_placeAll_X2_lay rfl rfl rfl cdX2_lay ⟨Nat.le_of_ble_eq_true rfl, Nat.le_of_ble_eq_true rfl⟩) 11 2 rfl rfl hz rfl hl.1 rfl (Nat.le_of_ble_eq_true rfl) dX2_placeAll_41 ⟨Nat.le_refl _, Nat.le_refl _⟩ (fun H locs hz => ?_)
        refine lv_aload_n hx hb dX2_placeAll_44 rfl (lv_at hl 0 rfl) ?_
        obtain ⟨s14, e15, h⟩ := bd1_e h
        refine zcallVv (As := []) (rest := []) CF hKK (KX2_aimItems (dC := dC) (dI := dI) (cI := cI) (cZ := cZ) (a := a) hok e15) (cwV 0 hts gX2_placeAll_X2_aimItems rfl rfl rfl cdX2_aimItems ⟨Nat.le_of_ble_eq_true rfl, Nat.le_of_ble_eq_true rfl⟩) 11 2 rfl rfl hz rfl hl.1 rfl (Nat.le_of_ble_eq_true rfl) dX2_placeAll_45 ⟨Nat.le_refl _, Nat.le_refl _⟩ (fun H locs hz => ?_)
        refine lv_aload_n hx hb dX2_placeAll_48 rfl (lv_at hl 0 rfl) ?_
        obtain ⟨s17, e18, h⟩ := bd1_e h
        refine zcallVv (As := []) (rest := []) CF hKK (KX2_aimIslands (dC := dC) (dI := dI) (cI := cI) (cZ := cZ) (a := a) hok e18) (cwV 0 hts gX2_placeAll_X2_aimIslands rfl rfl rfl cdX2_aimIslands ⟨Nat.le_of_ble_eq_true rfl, Nat.le_of_ble_eq_true rfl⟩) 11 2 rfl rfl hz rfl hl.1 rfl (Nat.le_of_ble_eq_true rfl) dX2_placeAll_49 ⟨Nat.le_refl _, Nat.le_refl _⟩ (fun H locs hz => ?_)
        refine lv_aload_n hx hb dX2_placeAll_52 rfl (lv_at hl 0 rfl) ?_
        obtain ⟨r19, s20, e21, h⟩ := bd2_e h
        refine zcallVi (As := []) (rest := []) CF hKK (KX2_mendsOne (dC := dC) (dI := dI) (cI := cI) (cZ := cZ) (a := a) hok e21) (cwV 0 hts gX2_placeAll_X2_mendsOne rfl rfl rfl cdX2_mendsOne ⟨Nat.le_of_ble_eq_true rfl, Nat.le_of_ble_eq_true rfl⟩) 11 2 rfl rfl hz rfl hl.1 rfl (Nat.le_of_ble_eq_true rfl) dX2_placeAll_53 ⟨Nat.le_refl _, Nat.le_refl _⟩ (fun H locs hz => ?_)
        refine lv_istore_n (lv' := [(1, .int r19), (0, .ref (a 11))]) hx hb dX2_placeAll_56 rfl hl (by decide) rfl (fun ls hl => ?_)
        refine lv_goto (tgt := 17) hx hb dX2_placeAll_57 (by decide) ?_
        exact hk17 s20 r19 _ _ _ h hz (lv_sub hl [1, 0] rfl)
  have l17 : ∀  (n : Nat), ∀ (σ : St) (y1 : Int32) (H : Heap) (locs : List Loc) (ls : Array Slot), fX2_placeAll_l17  n σ y1 = some σ2 → zz (dC, dI) 30 a (wdC cI cZ a σ) s.heap H locs → lv_has ls 2 [(0, .ref (a 11)), (1, .int y1)] → W p l e rmX2_placeAll s m args below meth c H locs 0 0 Q (F0 m 17 ls []) := by
    intro  n
    induction n with
    | zero => intro σ y1 H locs ls h; exact nomatch h
    | succ n ih => exact s17  (fX2_placeAll_l17  n) ih
  unfold fX2_placeAll at h
  refine lv_aload_n hx hb dX2_placeAll_0 rfl (lv_at hl 0 rfl) ?_
  obtain ⟨s2, e3, h⟩ := bd1_e h
  refine zcallVv (As := []) (rest := []) CF hKK (KX2_clear (dC := dC) (dI := dI) (cI := cI) (cZ := cZ) (a := a) hok e3) (cwV 0 hts gX2_placeAll_X2_clear rfl rfl rfl cdX2_clear ⟨Nat.le_of_ble_eq_true rfl, Nat.le_of_ble_eq_true rfl⟩) 11 2 rfl rfl hz rfl hl.1 rfl (Nat.le_of_ble_eq_true rfl) dX2_placeAll_1 ⟨Nat.le_refl _, Nat.le_refl _⟩ (fun H locs hz => ?_)
  refine lv_aload_n hx hb dX2_placeAll_4 rfl (lv_at hl 0 rfl) ?_
  refine va_get (v := .ref (a 7)) hx hb hts inX2_placeAll_X2 hown hKK.1 hz.1 11 rfl rfl 0 (by decide) (hts _ (List.mem_of_getElem? (i := 1) rfl)) (fun _ h9 => h9) rfl dX2_placeAll_5 ?_
  obtain ⟨r4, e6, h⟩ := bd1_e h
  refine zcallVi (As := []) (rest := []) CF hKK (KX0_size_p (dC := dC) (dI := dI) (cI := cI) (cZ := cZ) (a := a) hok e6) (cwV 0 hts gX2_placeAll_X0_size rfl rfl rfl cdX0_size ⟨Nat.le_of_ble_eq_true rfl, Nat.le_of_ble_eq_true rfl⟩) 7 0 rfl rfl hz rfl hl.1 rfl (Nat.le_of_ble_eq_true rfl) dX2_placeAll_8 ⟨Nat.le_refl _, Nat.le_refl _⟩ (fun H locs hz => ?_)
  refine lv_if_ne (tgt := 15) hx hb dX2_placeAll_11 (by decide) (fun c7 => ?_) (fun c7 => ?_)
  · replace h := ite_f c7 h
    refine lv_iconst (v := (1 : Int32)) hx hb dX2_placeAll_15 (by decide) ?_
    refine lv_istore_n (lv' := [(1, .int (1 : Int32)), (0, .ref (a 11))]) hx hb dX2_placeAll_16 rfl hl (by decide) rfl (fun ls hl => ?_)
    exact l17  FU s2 (1 : Int32) _ _ _ h hz (lv_sub hl [1, 0] rfl)
  · replace h := ite_t c7 h
    exact rt s2 14 _ _ _ dX2_placeAll_14 h hz
def fX2_sizeOf (σ : St) (x1 : Int32) : Option (Int32) :=
  (if x1 < 0 then (some (-1 : Int32)) else ((if (24 : Int32) ≤ x1 then (some (-1 : Int32)) else ((ck (¬ (x1 < 0 ∨ 24 ≤ Int32.toNatClampNeg x1)) <| some ((σ 26) (Int32.toNatClampNeg x1)))))))
abbrev rmX2_sizeOf : Room := { frames := 0, cells := 0, slots := 0, locals := 0 }
set_option maxHeartbeats 4000000 in
set_option maxRecDepth 100000 in
theorem KX2_sizeOf {l : Launch} {dC : Nat → ClassId} {dI : Nat → Nat → Nat} {cI cZ : ClassId} {a : Nat → Nat} {σ : St} {x1 : Int32} {r : Int32} (hok : okA 30 a) (h : fX2_sizeOf σ x1 = some r) (sz : Nat) : Met l yX2_sizeOf wsX2_sizeOf rmX2_sizeOf (Pz (dC, dI) cI cZ (wdC cI cZ a σ) sz [.ref (a 11), .int x1]) (Qzi (dC, dI) 30 a (wdC cI cZ a σ) sz r) 0 0 (aN 30 a sz) := by
  refine Met.ofW (cc := cX2_sizeOf) (maxL := 2) (ret := (some .int)) (by decide) rfl ?_
  intro p e s m args below meth c s₁ B hml hv
  obtain ⟨hav, hsz, hP, hKK⟩ := hv
  have hx := B.exec
  have hb := B.bytes
  have hr := B.returns
  have hts := atoms_spec (ws := wsX2_sizeOf) B.pre
  have hown : s.vm.findClass RX2 = some m.cls := findClass_of_methodNamed B.named
  have hlocks := B.notSynchronized
  have CF : CallFix p m c cX2_sizeOf 2 s args wsX2_sizeOf RX2 := ⟨hx, hb, hml, hown, hts⟩
  have hz : zz (dC, dI) 30 a (wdC cI cZ a σ) s.heap s.heap [] := ⟨hP, va_S.rf⟩
  have hl := lv_entry [.ref (a 11), .int x1] (n := 2) (Nat.le_of_ble_eq_true rfl)
  have hen : entryFrame m args 2 = entryFrame m ([.ref (a 11), .int x1] : List Value).toArray 2 := by rw [hav]
  rw [hen, lg_entry_eq]
  generalize (lg_sl [.ref (a 11), .int x1] ++ List.replicate (2 - (lg_sl [.ref (a 11), .int x1]).length) Slot.unset).toArray = ls at hl ⊢
  have hl : lv_has ls 2 [(0, .ref (a 11)), (1, .int x1)] := hl
  have eR : (headSpec wsX2_sizeOf rmX2_sizeOf).room = rmX2_sizeOf := rfl
  rw [eR]
  have rt : ∀ (v : Int32) (t : St) (pc : Nat) (H : Heap) (locs : List Loc) (ls : Array Slot), decode cX2_sizeOf pc = .ok (.ireturn, 1) → some v = some r → zz (dC, dI) 30 a (wdC cI cZ a σ) s.heap H locs → W p l e rmX2_sizeOf s m args below meth c H locs 0 0 (MQ below (Qzi (dC, dI) 30 a (wdC cI cZ a σ) sz r) args s 0 0 (aN 30 a sz)) (F0 m pc ls [.int v]) := by
    intro v t pc H locs ls hd h hz
    cases h
    exact ziret hsz hx hb hr hlocks hz hd
  generalize (MQ below (Qzi (dC, dI) 30 a (wdC cI cZ a σ) sz r) args s 0 0 (aN 30 a sz)) = Q at rt ⊢
  unfold fX2_sizeOf at h
  refine lv_iload_n hx hb dX2_sizeOf_0 rfl (lv_at hl 1 rfl) ?_
  refine lv_if_lt (tgt := 22) hx hb dX2_sizeOf_1 (by decide) (fun c1 => ?_) (fun c1 => ?_)
  · replace h := ite_t c1 h
    refine lv_iconst (v := (-1 : Int32)) hx hb dX2_sizeOf_22 (by decide) ?_
    exact rt (-1 : Int32) σ 23 _ _ _ dX2_sizeOf_23 h hz
  · replace h := ite_f c1 h
    refine lv_iload_n hx hb dX2_sizeOf_4 rfl (lv_at hl 1 rfl) ?_
    refine lv_aload_n hx hb dX2_sizeOf_5 rfl (lv_at hl 0 rfl) ?_
    refine va_get (v := .ref (a 26)) hx hb hts inX2_sizeOf_X2 hown hKK.1 hz.1 11 rfl rfl 6 (by decide) (hts _ (List.mem_of_getElem? (i := 1) rfl)) (fun _ h9 => h9) rfl dX2_sizeOf_6 ?_
    refine va_alen (v := (24 : Int32)) hx hb hKK.1 hz.1 26 0 rfl rfl rfl dX2_sizeOf_9 ?_
    refine lv_icmp_ge (tgt := 22) hx hb dX2_sizeOf_10 (by decide) (fun c2 => ?_) (fun c2 => ?_)
    · replace h := ite_t c2 h
      refine lv_iconst (v := (-1 : Int32)) hx hb dX2_sizeOf_22 (by decide) ?_
      exact rt (-1 : Int32) σ 23 _ _ _ dX2_sizeOf_23 h hz
    · replace h := ite_f c2 h
      refine lv_aload_n hx hb dX2_sizeOf_13 rfl (lv_at hl 0 rfl) ?_
      refine va_get (v := .ref (a 26)) hx hb hts inX2_sizeOf_X2 hown hKK.1 hz.1 11 rfl rfl 6 (by decide) (hts _ (List.mem_of_getElem? (i := 1) rfl)) (fun _ h9 => h9) rfl dX2_sizeOf_14 ?_
      refine lv_iload_n hx hb dX2_sizeOf_17 rfl (lv_at hl 1 rfl) ?_
      obtain ⟨c3, h⟩ := ck_e h
      refine va_iald (f := (σ 26)) hx hb hKK.1 hz.1 26 0 rfl rfl c3 dX2_sizeOf_18 ?_
      refine lv_goto (tgt := 23) hx hb dX2_sizeOf_19 (by decide) ?_
      exact rt ((σ 26) (Int32.toNatClampNeg x1)) σ 23 _ _ _ dX2_sizeOf_23 h hz
def fX2_loadsOf_s14 (σ : St) (k14 : Int32 → Int32 → Int32 → Option (Int32)) (y2 : Int32) (y3 : Int32) (y4 : Int32) : Option (Int32) :=
  (bd1 (fX0_size_p σ ) fun r4 => (if r4 ≤ y4 then (some y3) else ((bd1 (fX0_kindOf_p σ y4) fun r8 => (if r8 = (1 : Int32) then ((bd1 (fX2_aimOf σ y4) fun r12 => (if r12 = y2 then (k14 y2 (y3 + (1 : Int32)) (y4 + (1 : Int32))) else (k14 y2 y3 (y4 + (1 : Int32)))))) else (k14 y2 y3 (y4 + (1 : Int32))))))))
def fX2_loadsOf_l14 (σ : St)  : Nat → Int32 → Int32 → Int32 → Option (Int32) :=
  itr (fX2_loadsOf_s14 σ ) (fun _ _ _ => none)
def fX2_loadsOf (σ : St) (x1 : Int32) : Option (Int32) :=
  (bd1 (fX4_addressOf_c σ x1) fun r1 => fX2_loadsOf_l14 σ  FU r1 (0 : Int32) (0 : Int32))
abbrev rmX2_loadsOf : Room := { frames := 2, cells := 0, slots := 0, locals := 43 }
set_option maxHeartbeats 4000000 in
set_option maxRecDepth 100000 in
theorem KX2_loadsOf {l : Launch} {dC : Nat → ClassId} {dI : Nat → Nat → Nat} {cI cZ : ClassId} {a : Nat → Nat} {σ : St} {x1 : Int32} {r : Int32} (hok : okA 30 a) (h : fX2_loadsOf σ x1 = some r) (sz : Nat) : Met l yX2_loadsOf wsX2_loadsOf rmX2_loadsOf (Pz (dC, dI) cI cZ (wdC cI cZ a σ) sz [.ref (a 11), .int x1]) (Qzi (dC, dI) 30 a (wdC cI cZ a σ) sz r) 0 0 (aN 30 a sz) := by
  refine Met.ofW (cc := cX2_loadsOf) (maxL := 5) (ret := (some .int)) (by decide) rfl ?_
  intro p e s m args below meth c s₁ B hml hv
  obtain ⟨hav, hsz, hP, hKK⟩ := hv
  have hx := B.exec
  have hb := B.bytes
  have hr := B.returns
  have hts := atoms_spec (ws := wsX2_loadsOf) B.pre
  have hown : s.vm.findClass RX2 = some m.cls := findClass_of_methodNamed B.named
  have hlocks := B.notSynchronized
  have CF : CallFix p m c cX2_loadsOf 5 s args wsX2_loadsOf RX2 := ⟨hx, hb, hml, hown, hts⟩
  have hz : zz (dC, dI) 30 a (wdC cI cZ a σ) s.heap s.heap [] := ⟨hP, va_S.rf⟩
  have hl := lv_entry [.ref (a 11), .int x1] (n := 5) (Nat.le_of_ble_eq_true rfl)
  have hen : entryFrame m args 5 = entryFrame m ([.ref (a 11), .int x1] : List Value).toArray 5 := by rw [hav]
  rw [hen, lg_entry_eq]
  generalize (lg_sl [.ref (a 11), .int x1] ++ List.replicate (5 - (lg_sl [.ref (a 11), .int x1]).length) Slot.unset).toArray = ls at hl ⊢
  have hl : lv_has ls 5 [(0, .ref (a 11)), (1, .int x1)] := hl
  have eR : (headSpec wsX2_loadsOf rmX2_loadsOf).room = rmX2_loadsOf := rfl
  rw [eR]
  have rt : ∀ (v : Int32) (t : St) (pc : Nat) (H : Heap) (locs : List Loc) (ls : Array Slot), decode cX2_loadsOf pc = .ok (.ireturn, 1) → some v = some r → zz (dC, dI) 30 a (wdC cI cZ a σ) s.heap H locs → W p l e rmX2_loadsOf s m args below meth c H locs 0 0 (MQ below (Qzi (dC, dI) 30 a (wdC cI cZ a σ) sz r) args s 0 0 (aN 30 a sz)) (F0 m pc ls [.int v]) := by
    intro v t pc H locs ls hd h hz
    cases h
    exact ziret hsz hx hb hr hlocks hz hd
  generalize (MQ below (Qzi (dC, dI) 30 a (wdC cI cZ a σ) sz r) args s 0 0 (aN 30 a sz)) = Q at rt ⊢
  have s14 : ∀ (k14 : Int32 → Int32 → Int32 → Option (Int32)) (hk14 : (∀ (y2 : Int32) (y3 : Int32) (y4 : Int32) (H : Heap) (locs : List Loc) (ls : Array Slot), k14 y2 y3 y4 = some r → zz (dC, dI) 30 a (wdC cI cZ a σ) s.heap H locs → lv_has ls 5 [(0, .ref (a 11)), (2, .int y2), (3, .int y3), (4, .int y4)] → W p l e rmX2_loadsOf s m args below meth c H locs 0 0 Q (F0 m 14 ls []))) (y2 : Int32) (y3 : Int32) (y4 : Int32) (H : Heap) (locs : List Loc) (ls : Array Slot), fX2_loadsOf_s14 σ k14 y2 y3 y4 = some r → zz (dC, dI) 30 a (wdC cI cZ a σ) s.heap H locs → lv_has ls 5 [(0, .ref (a 11)), (2, .int y2), (3, .int y3), (4, .int y4)] → W p l e rmX2_loadsOf s m args below meth c H locs 0 0 Q (F0 m 14 ls []) := by
    intro k14 hk14 y2 y3 y4 H locs ls h hz hl
    unfold fX2_loadsOf_s14 at h
    refine lv_iload hx hb dX2_loadsOf_14 (lv_at hl 3 rfl) ?_
    refine lv_aload_n hx hb dX2_loadsOf_16 rfl (lv_at hl 0 rfl) ?_
    refine va_get (v := .ref (a 7)) hx hb hts inX2_loadsOf_X2 hown hKK.1 hz.1 11 rfl rfl 0 (by decide) (hts _ (List.mem_of_getElem? (i := 2) rfl)) (fun _ h9 => h9) rfl dX2_loadsOf_17 ?_
    obtain ⟨r4, e6, h⟩ := bd1_e h
    refine zcallVi (As := []) (rest := [.int y4]) CF hKK (KX0_size_p (dC := dC) (dI := dI) (cI := cI) (cZ := cZ) (a := a) hok e6) (cwV 0 hts gX2_loadsOf_X0_size rfl rfl rfl cdX0_size ⟨Nat.le_of_ble_eq_true rfl, Nat.le_of_ble_eq_true rfl⟩) 7 0 rfl rfl hz rfl hl.1 rfl (Nat.le_of_ble_eq_true rfl) dX2_loadsOf_20 ⟨Nat.le_refl _, Nat.le_refl _⟩ (fun H locs hz => ?_)
    refine lv_icmp_ge (tgt := 58) hx hb dX2_loadsOf_23 (by decide) (fun c7 => ?_) (fun c7 => ?_)
    · replace h := ite_t c7 h
      refine lv_iload_n hx hb dX2_loadsOf_58 rfl (lv_at hl 2 rfl) ?_
      exact rt y3 σ 59 _ _ _ dX2_loadsOf_59 h hz
    · replace h := ite_f c7 h
      refine lv_aload_n hx hb dX2_loadsOf_26 rfl (lv_at hl 0 rfl) ?_
      refine va_get (v := .ref (a 7)) hx hb hts inX2_loadsOf_X2 hown hKK.1 hz.1 11 rfl rfl 0 (by decide) (hts _ (List.mem_of_getElem? (i := 2) rfl)) (fun _ h9 => h9) rfl dX2_loadsOf_27 ?_
      refine lv_iload hx hb dX2_loadsOf_30 (lv_at hl 3 rfl) ?_
      obtain ⟨r8, e10, h⟩ := bd1_e h
      refine zcallVi (As := [.int y4]) (rest := []) CF hKK (KX0_kindOf_p (dC := dC) (dI := dI) (cI := cI) (cZ := cZ) (a := a) hok e10) (cwV 1 hts gX2_loadsOf_X0_kindOf rfl rfl rfl cdX0_kindOf ⟨Nat.le_of_ble_eq_true rfl, Nat.le_of_ble_eq_true rfl⟩) 7 0 rfl rfl hz rfl hl.1 rfl (Nat.le_of_ble_eq_true rfl) dX2_loadsOf_32 ⟨Nat.le_refl _, Nat.le_refl _⟩ (fun H locs hz => ?_)
      refine lv_iconst (v := (1 : Int32)) hx hb dX2_loadsOf_35 (by decide) ?_
      refine lv_icmp_ne (tgt := 52) hx hb dX2_loadsOf_36 (by decide) (fun c11 => ?_) (fun c11 => ?_)
      · replace h := ite_f c11 h
        refine lv_iinc (v := (y4 + (1 : Int32))) (lv' := [(4, .int (y4 + (1 : Int32))), (0, .ref (a 11)), (2, .int y2), (3, .int y3)]) hx hb dX2_loadsOf_52 hl (k := 3) rfl rfl (by decide) rfl (fun ls hl => ?_)
        refine lv_goto (tgt := 14) hx hb dX2_loadsOf_55 (by decide) ?_
        exact hk14 y2 y3 (y4 + (1 : Int32)) _ _ _ h hz (lv_sub hl [1, 2, 3, 0] rfl)
      · replace h := ite_t c11 h
        refine lv_aload_n hx hb dX2_loadsOf_39 rfl (lv_at hl 0 rfl) ?_
        refine lv_iload hx hb dX2_loadsOf_40 (lv_at hl 3 rfl) ?_
        obtain ⟨r12, e14, h⟩ := bd1_e h
        refine zcallVi (As := [.int y4]) (rest := []) CF hKK (KX2_aimOf (dC := dC) (dI := dI) (cI := cI) (cZ := cZ) (a := a) hok e14) (cwV 1 hts gX2_loadsOf_X2_aimOf rfl rfl rfl cdX2_aimOf ⟨Nat.le_of_ble_eq_true rfl, Nat.le_of_ble_eq_true rfl⟩) 11 2 rfl rfl hz rfl hl.1 rfl (Nat.le_of_ble_eq_true rfl) dX2_loadsOf_42 ⟨Nat.le_refl _, Nat.le_refl _⟩ (fun H locs hz => ?_)
        refine lv_iload_n hx hb dX2_loadsOf_45 rfl (lv_at hl 1 rfl) ?_
        refine lv_icmp_ne (tgt := 52) hx hb dX2_loadsOf_46 (by decide) (fun c15 => ?_) (fun c15 => ?_)
        · replace h := ite_f c15 h
          refine lv_iinc (v := (y4 + (1 : Int32))) (lv' := [(4, .int (y4 + (1 : Int32))), (0, .ref (a 11)), (2, .int y2), (3, .int y3)]) hx hb dX2_loadsOf_52 hl (k := 3) rfl rfl (by decide) rfl (fun ls hl => ?_)
          refine lv_goto (tgt := 14) hx hb dX2_loadsOf_55 (by decide) ?_
          exact hk14 y2 y3 (y4 + (1 : Int32)) _ _ _ h hz (lv_sub hl [1, 2, 3, 0] rfl)
        · replace h := ite_t c15 h
          refine lv_iinc (v := (y3 + (1 : Int32))) (lv' := [(3, .int (y3 + (1 : Int32))), (0, .ref (a 11)), (2, .int y2), (4, .int y4)]) hx hb dX2_loadsOf_49 hl (k := 2) rfl rfl (by decide) rfl (fun ls hl => ?_)
          refine lv_iinc (v := (y4 + (1 : Int32))) (lv' := [(4, .int (y4 + (1 : Int32))), (3, .int (y3 + (1 : Int32))), (0, .ref (a 11)), (2, .int y2)]) hx hb dX2_loadsOf_52 hl (k := 3) rfl rfl (by decide) rfl (fun ls hl => ?_)
          refine lv_goto (tgt := 14) hx hb dX2_loadsOf_55 (by decide) ?_
          exact hk14 y2 (y3 + (1 : Int32)) (y4 + (1 : Int32)) _ _ _ h hz (lv_sub hl [2, 3, 1, 0] rfl)
  have l14 : ∀  (n : Nat), ∀ (y2 : Int32) (y3 : Int32) (y4 : Int32) (H : Heap) (locs : List Loc) (ls : Array Slot), fX2_loadsOf_l14 σ  n y2 y3 y4 = some r → zz (dC, dI) 30 a (wdC cI cZ a σ) s.heap H locs → lv_has ls 5 [(0, .ref (a 11)), (2, .int y2), (3, .int y3), (4, .int y4)] → W p l e rmX2_loadsOf s m args below meth c H locs 0 0 Q (F0 m 14 ls []) := by
    intro  n
    induction n with
    | zero => intro y2 y3 y4 H locs ls h; exact nomatch h
    | succ n ih => exact s14  (fX2_loadsOf_l14 σ  n) ih
  unfold fX2_loadsOf at h
  refine lv_aload_n hx hb dX2_loadsOf_0 rfl (lv_at hl 0 rfl) ?_
  refine va_get (v := .ref (a 18)) hx hb hts inX2_loadsOf_X2 hown hKK.1 hz.1 11 rfl rfl 3 (by decide) (hts _ (List.mem_of_getElem? (i := 1) rfl)) (fun _ h9 => h9) rfl dX2_loadsOf_1 ?_
  refine lv_iload_n hx hb dX2_loadsOf_4 rfl (lv_at hl 1 rfl) ?_
  obtain ⟨r1, e3, h⟩ := bd1_e h
  refine zcallVi (As := [.int x1]) (rest := []) CF hKK (KX4_addressOf_c (dC := dC) (dI := dI) (cI := cI) (cZ := cZ) (a := a) hok e3) (cwV 1 hts gX2_loadsOf_X4_addressOf rfl rfl rfl cdX4_addressOf ⟨Nat.le_of_ble_eq_true rfl, Nat.le_of_ble_eq_true rfl⟩) 18 4 rfl rfl hz rfl hl.1 rfl (Nat.le_of_ble_eq_true rfl) dX2_loadsOf_5 ⟨Nat.le_refl _, Nat.le_refl _⟩ (fun H locs hz => ?_)
  refine lv_istore_n (lv' := [(2, .int r1), (0, .ref (a 11)), (1, .int x1)]) hx hb dX2_loadsOf_8 rfl hl (by decide) rfl (fun ls hl => ?_)
  refine lv_iconst (v := (0 : Int32)) hx hb dX2_loadsOf_9 (by decide) ?_
  refine lv_istore_n (lv' := [(3, .int (0 : Int32)), (2, .int r1), (0, .ref (a 11)), (1, .int x1)]) hx hb dX2_loadsOf_10 rfl hl (by decide) rfl (fun ls hl => ?_)
  refine lv_iconst (v := (0 : Int32)) hx hb dX2_loadsOf_11 (by decide) ?_
  refine lv_istore (lv' := [(4, .int (0 : Int32)), (3, .int (0 : Int32)), (2, .int r1), (0, .ref (a 11)), (1, .int x1)]) hx hb dX2_loadsOf_12 hl (by decide) rfl (fun ls hl => ?_)
  exact l14  FU r1 (0 : Int32) (0 : Int32) _ _ _ h hz (lv_sub hl [3, 2, 1, 0] rfl)
def fX2_hopsFrom_s41 (σ : St) (k41 : Int32 → Int32 → Int32 → Option (Int32)) (y2 : Int32) (y3 : Int32) (y4 : Int32) : Option (Int32) :=
  (if (12 : Int32) < y4 then (some (-1 : Int32)) else ((bd1 (fX2_goesStraight σ y3 y2) fun r12 => (if r12 = 0 then ((bd1 (fX2_islandFor σ y3 y2) fun r16 => (if r16 = (-1 : Int32) then (some (-1 : Int32)) else ((bd1 (fX4_addressOf_i σ r16) fun r20 => k41 y2 r20 (y4 + (1 : Int32))))))) else (some y4)))))
def fX2_hopsFrom_l41 (σ : St)  : Nat → Int32 → Int32 → Int32 → Option (Int32) :=
  itr (fX2_hopsFrom_s41 σ ) (fun _ _ _ => none)
def fX2_hopsFrom (σ : St) (x1 : Int32) : Option (Int32) :=
  (bd1 (fX0_toldOf_p σ x1) fun r1 => (bd1 (fX2_addressOf σ x1) fun r4 => (bd1 (fX2_isLong σ x1) fun r7 => (if r7 = 0 then ((bd1 (fX2_aimOf σ x1) fun r23 => (if r23 = (-1 : Int32) then (some (-1 : Int32)) else (some (0 : Int32))))) else (fX2_hopsFrom_l41 σ  FU r1 r4 (0 : Int32))))))
abbrev rmX2_hopsFrom : Room := { frames := 3, cells := 0, slots := 0, locals := 73 }
set_option maxHeartbeats 4000000 in
set_option maxRecDepth 100000 in
theorem KX2_hopsFrom {l : Launch} {dC : Nat → ClassId} {dI : Nat → Nat → Nat} {cI cZ : ClassId} {a : Nat → Nat} {σ : St} {x1 : Int32} {r : Int32} (hok : okA 30 a) (h : fX2_hopsFrom σ x1 = some r) (sz : Nat) : Met l yX2_hopsFrom wsX2_hopsFrom rmX2_hopsFrom (Pz (dC, dI) cI cZ (wdC cI cZ a σ) sz [.ref (a 11), .int x1]) (Qzi (dC, dI) 30 a (wdC cI cZ a σ) sz r) 0 0 (aN 30 a sz) := by
  refine Met.ofW (cc := cX2_hopsFrom) (maxL := 6) (ret := (some .int)) (by decide) rfl ?_
  intro p e s m args below meth c s₁ B hml hv
  obtain ⟨hav, hsz, hP, hKK⟩ := hv
  have hx := B.exec
  have hb := B.bytes
  have hr := B.returns
  have hts := atoms_spec (ws := wsX2_hopsFrom) B.pre
  have hown : s.vm.findClass RX2 = some m.cls := findClass_of_methodNamed B.named
  have hlocks := B.notSynchronized
  have CF : CallFix p m c cX2_hopsFrom 6 s args wsX2_hopsFrom RX2 := ⟨hx, hb, hml, hown, hts⟩
  have hz : zz (dC, dI) 30 a (wdC cI cZ a σ) s.heap s.heap [] := ⟨hP, va_S.rf⟩
  have hl := lv_entry [.ref (a 11), .int x1] (n := 6) (Nat.le_of_ble_eq_true rfl)
  have hen : entryFrame m args 6 = entryFrame m ([.ref (a 11), .int x1] : List Value).toArray 6 := by rw [hav]
  rw [hen, lg_entry_eq]
  generalize (lg_sl [.ref (a 11), .int x1] ++ List.replicate (6 - (lg_sl [.ref (a 11), .int x1]).length) Slot.unset).toArray = ls at hl ⊢
  have hl : lv_has ls 6 [(0, .ref (a 11)), (1, .int x1)] := hl
  have eR : (headSpec wsX2_hopsFrom rmX2_hopsFrom).room = rmX2_hopsFrom := rfl
  rw [eR]
  have rt : ∀ (v : Int32) (t : St) (pc : Nat) (H : Heap) (locs : List Loc) (ls : Array Slot), decode cX2_hopsFrom pc = .ok (.ireturn, 1) → some v = some r → zz (dC, dI) 30 a (wdC cI cZ a σ) s.heap H locs → W p l e rmX2_hopsFrom s m args below meth c H locs 0 0 (MQ below (Qzi (dC, dI) 30 a (wdC cI cZ a σ) sz r) args s 0 0 (aN 30 a sz)) (F0 m pc ls [.int v]) := by
    intro v t pc H locs ls hd h hz
    cases h
    exact ziret hsz hx hb hr hlocks hz hd
  generalize (MQ below (Qzi (dC, dI) 30 a (wdC cI cZ a σ) sz r) args s 0 0 (aN 30 a sz)) = Q at rt ⊢
  have s41 : ∀ (k41 : Int32 → Int32 → Int32 → Option (Int32)) (hk41 : (∀ (y2 : Int32) (y3 : Int32) (y4 : Int32) (H : Heap) (locs : List Loc) (ls : Array Slot), k41 y2 y3 y4 = some r → zz (dC, dI) 30 a (wdC cI cZ a σ) s.heap H locs → lv_has ls 6 [(0, .ref (a 11)), (2, .int y2), (3, .int y3), (4, .int y4)] → W p l e rmX2_hopsFrom s m args below meth c H locs 0 0 Q (F0 m 41 ls []))) (y2 : Int32) (y3 : Int32) (y4 : Int32) (H : Heap) (locs : List Loc) (ls : Array Slot), fX2_hopsFrom_s41 σ k41 y2 y3 y4 = some r → zz (dC, dI) 30 a (wdC cI cZ a σ) s.heap H locs → lv_has ls 6 [(0, .ref (a 11)), (2, .int y2), (3, .int y3), (4, .int y4)] → W p l e rmX2_hopsFrom s m args below meth c H locs 0 0 Q (F0 m 41 ls []) := by
    intro k41 hk41 y2 y3 y4 H locs ls h hz hl
    unfold fX2_hopsFrom_s41 at h
    refine lv_iload hx hb dX2_hopsFrom_41 (lv_at hl 3 rfl) ?_
    refine lv_bipush (v := (12 : Int32)) hx hb dX2_hopsFrom_43 (by decide) ?_
    refine lv_icmp_gt (tgt := 92) hx hb dX2_hopsFrom_45 (by decide) (fun c11 => ?_) (fun c11 => ?_)
    · replace h := ite_t c11 h
      refine lv_iconst (v := (-1 : Int32)) hx hb dX2_hopsFrom_92 (by decide) ?_
      exact rt (-1 : Int32) σ 93 _ _ _ dX2_hopsFrom_93 h hz
    · replace h := ite_f c11 h
      refine lv_aload_n hx hb dX2_hopsFrom_48 rfl (lv_at hl 0 rfl) ?_
      refine lv_iload_n hx hb dX2_hopsFrom_49 rfl (lv_at hl 2 rfl) ?_
      refine lv_iload_n hx hb dX2_hopsFrom_50 rfl (lv_at hl 1 rfl) ?_
      obtain ⟨r12, e14, h⟩ := bd1_e h
      refine zcallVi (As := [.int y3, .int y2]) (rest := []) CF hKK (KX2_goesStraight (dC := dC) (dI := dI) (cI := cI) (cZ := cZ) (a := a) hok e14) (cwV 2 hts gX2_hopsFrom_X2_goesStraight rfl rfl rfl cdX2_goesStraight ⟨Nat.le_of_ble_eq_true rfl, Nat.le_of_ble_eq_true rfl⟩) 11 2 rfl rfl hz rfl hl.1 rfl (Nat.le_of_ble_eq_true rfl) dX2_hopsFrom_51 ⟨Nat.le_refl _, Nat.le_refl _⟩ (fun H locs hz => ?_)
      refine lv_if_eq (tgt := 60) hx hb dX2_hopsFrom_54 (by decide) (fun c15 => ?_) (fun c15 => ?_)
      · replace h := ite_t c15 h
        refine lv_aload_n hx hb dX2_hopsFrom_60 rfl (lv_at hl 0 rfl) ?_
        refine lv_iload_n hx hb dX2_hopsFrom_61 rfl (lv_at hl 2 rfl) ?_
        refine lv_iload_n hx hb dX2_hopsFrom_62 rfl (lv_at hl 1 rfl) ?_
        obtain ⟨r16, e18, h⟩ := bd1_e h
        refine zcallVi (As := [.int y3, .int y2]) (rest := []) CF hKK (KX2_islandFor (dC := dC) (dI := dI) (cI := cI) (cZ := cZ) (a := a) hok e18) (cwV 2 hts gX2_hopsFrom_X2_islandFor rfl rfl rfl cdX2_islandFor ⟨Nat.le_of_ble_eq_true rfl, Nat.le_of_ble_eq_true rfl⟩) 11 2 rfl rfl hz rfl hl.1 rfl (Nat.le_of_ble_eq_true rfl) dX2_hopsFrom_63 ⟨Nat.le_refl _, Nat.le_refl _⟩ (fun H locs hz => ?_)
        refine lv_istore (lv' := [(5, .int r16), (0, .ref (a 11)), (2, .int y2), (3, .int y3), (4, .int y4)]) hx hb dX2_hopsFrom_66 hl (by decide) rfl (fun ls hl => ?_)
        refine lv_iload hx hb dX2_hopsFrom_68 (lv_at hl 0 rfl) ?_
        refine lv_iconst (v := (-1 : Int32)) hx hb dX2_hopsFrom_70 (by decide) ?_
        refine lv_icmp_ne (tgt := 76) hx hb dX2_hopsFrom_71 (by decide) (fun c19 => ?_) (fun c19 => ?_)
        · replace h := ite_f c19 h
          refine lv_aload_n hx hb dX2_hopsFrom_76 rfl (lv_at hl 1 rfl) ?_
          refine va_get (v := .ref (a 12)) hx hb hts inX2_hopsFrom_X2 hown hKK.1 hz.1 11 rfl rfl 2 (by decide) (hts _ (List.mem_of_getElem? (i := 2) rfl)) (fun _ h9 => h9) rfl dX2_hopsFrom_77 ?_
          refine lv_iload hx hb dX2_hopsFrom_80 (lv_at hl 0 rfl) ?_
          obtain ⟨r20, e22, h⟩ := bd1_e h
          refine zcallVi (As := [.int r16]) (rest := []) CF hKK (KX4_addressOf_i (dC := dC) (dI := dI) (cI := cI) (cZ := cZ) (a := a) hok e22) (cwV 1 hts gX2_hopsFrom_X4_addressOf rfl rfl rfl cdX4_addressOf ⟨Nat.le_of_ble_eq_true rfl, Nat.le_of_ble_eq_true rfl⟩) 12 4 rfl rfl hz rfl hl.1 rfl (Nat.le_of_ble_eq_true rfl) dX2_hopsFrom_82 ⟨Nat.le_refl _, Nat.le_refl _⟩ (fun H locs hz => ?_)
          refine lv_istore_n (lv' := [(3, .int r20), (5, .int r16), (0, .ref (a 11)), (2, .int y2), (4, .int y4)]) hx hb dX2_hopsFrom_85 rfl hl (by decide) rfl (fun ls hl => ?_)
          refine lv_iinc (v := (y4 + (1 : Int32))) (lv' := [(4, .int (y4 + (1 : Int32))), (3, .int r20), (5, .int r16), (0, .ref (a 11)), (2, .int y2)]) hx hb dX2_hopsFrom_86 hl (k := 4) rfl rfl (by decide) rfl (fun ls hl => ?_)
          refine lv_goto (tgt := 41) hx hb dX2_hopsFrom_89 (by decide) ?_
          exact hk41 y2 r20 (y4 + (1 : Int32)) _ _ _ h hz (lv_sub hl [3, 4, 1, 0] rfl)
        · replace h := ite_t c19 h
          refine lv_iconst (v := (-1 : Int32)) hx hb dX2_hopsFrom_74 (by decide) ?_
          exact rt (-1 : Int32) σ 75 _ _ _ dX2_hopsFrom_75 h hz
      · replace h := ite_f c15 h
        refine lv_iload hx hb dX2_hopsFrom_57 (lv_at hl 3 rfl) ?_
        exact rt y4 σ 59 _ _ _ dX2_hopsFrom_59 h hz
  have l41 : ∀  (n : Nat), ∀ (y2 : Int32) (y3 : Int32) (y4 : Int32) (H : Heap) (locs : List Loc) (ls : Array Slot), fX2_hopsFrom_l41 σ  n y2 y3 y4 = some r → zz (dC, dI) 30 a (wdC cI cZ a σ) s.heap H locs → lv_has ls 6 [(0, .ref (a 11)), (2, .int y2), (3, .int y3), (4, .int y4)] → W p l e rmX2_hopsFrom s m args below meth c H locs 0 0 Q (F0 m 41 ls []) := by
    intro  n
    induction n with
    | zero => intro y2 y3 y4 H locs ls h; exact nomatch h
    | succ n ih => exact s41  (fX2_hopsFrom_l41 σ  n) ih
  unfold fX2_hopsFrom at h
  refine lv_aload_n hx hb dX2_hopsFrom_0 rfl (lv_at hl 0 rfl) ?_
  refine va_get (v := .ref (a 7)) hx hb hts inX2_hopsFrom_X2 hown hKK.1 hz.1 11 rfl rfl 0 (by decide) (hts _ (List.mem_of_getElem? (i := 1) rfl)) (fun _ h9 => h9) rfl dX2_hopsFrom_1 ?_
  refine lv_iload_n hx hb dX2_hopsFrom_4 rfl (lv_at hl 1 rfl) ?_
  obtain ⟨r1, e3, h⟩ := bd1_e h
  refine zcallVi (As := [.int x1]) (rest := []) CF hKK (KX0_toldOf_p (dC := dC) (dI := dI) (cI := cI) (cZ := cZ) (a := a) hok e3) (cwV 1 hts gX2_hopsFrom_X0_toldOf rfl rfl rfl cdX0_toldOf ⟨Nat.le_of_ble_eq_true rfl, Nat.le_of_ble_eq_true rfl⟩) 7 0 rfl rfl hz rfl hl.1 rfl (Nat.le_of_ble_eq_true rfl) dX2_hopsFrom_5 ⟨Nat.le_refl _, Nat.le_refl _⟩ (fun H locs hz => ?_)
  refine lv_istore_n (lv' := [(2, .int r1), (0, .ref (a 11)), (1, .int x1)]) hx hb dX2_hopsFrom_8 rfl hl (by decide) rfl (fun ls hl => ?_)
  refine lv_aload_n hx hb dX2_hopsFrom_9 rfl (lv_at hl 1 rfl) ?_
  refine lv_iload_n hx hb dX2_hopsFrom_10 rfl (lv_at hl 2 rfl) ?_
  obtain ⟨r4, e6, h⟩ := bd1_e h
  refine zcallVi (As := [.int x1]) (rest := []) CF hKK (KX2_addressOf (dC := dC) (dI := dI) (cI := cI) (cZ := cZ) (a := a) hok e6) (cwV 1 hts gX2_hopsFrom_X2_addressOf rfl rfl rfl cdX2_addressOf ⟨Nat.le_of_ble_eq_true rfl, Nat.le_of_ble_eq_true rfl⟩) 11 2 rfl rfl hz rfl hl.1 rfl (Nat.le_of_ble_eq_true rfl) dX2_hopsFrom_11 ⟨Nat.le_refl _, Nat.le_refl _⟩ (fun H locs hz => ?_)
  refine lv_istore_n (lv' := [(3, .int r4), (2, .int r1), (0, .ref (a 11)), (1, .int x1)]) hx hb dX2_hopsFrom_14 rfl hl (by decide) rfl (fun ls hl => ?_)
  refine lv_aload_n hx hb dX2_hopsFrom_15 rfl (lv_at hl 2 rfl) ?_
  refine lv_iload_n hx hb dX2_hopsFrom_16 rfl (lv_at hl 3 rfl) ?_
  obtain ⟨r7, e9, h⟩ := bd1_e h
  refine zcallVi (As := [.int x1]) (rest := []) CF hKK (KX2_isLong (dC := dC) (dI := dI) (cI := cI) (cZ := cZ) (a := a) hok e9) (cwV 1 hts gX2_hopsFrom_X2_isLong rfl rfl rfl cdX2_isLong ⟨Nat.le_of_ble_eq_true rfl, Nat.le_of_ble_eq_true rfl⟩) 11 2 rfl rfl hz rfl hl.1 rfl (Nat.le_of_ble_eq_true rfl) dX2_hopsFrom_17 ⟨Nat.le_refl _, Nat.le_refl _⟩ (fun H locs hz => ?_)
  refine lv_if_ne (tgt := 38) hx hb dX2_hopsFrom_20 (by decide) (fun c10 => ?_) (fun c10 => ?_)
  · replace h := ite_f c10 h
    refine lv_iconst (v := (0 : Int32)) hx hb dX2_hopsFrom_38 (by decide) ?_
    refine lv_istore (lv' := [(4, .int (0 : Int32)), (3, .int r4), (2, .int r1), (0, .ref (a 11)), (1, .int x1)]) hx hb dX2_hopsFrom_39 hl (by decide) rfl (fun ls hl => ?_)
    exact l41  FU r1 r4 (0 : Int32) _ _ _ h hz (lv_sub hl [3, 2, 1, 0] rfl)
  · replace h := ite_t c10 h
    refine lv_aload_n hx hb dX2_hopsFrom_23 rfl (lv_at hl 2 rfl) ?_
    refine lv_iload_n hx hb dX2_hopsFrom_24 rfl (lv_at hl 3 rfl) ?_
    obtain ⟨r23, e25, h⟩ := bd1_e h
    refine zcallVi (As := [.int x1]) (rest := []) CF hKK (KX2_aimOf (dC := dC) (dI := dI) (cI := cI) (cZ := cZ) (a := a) hok e25) (cwV 1 hts gX2_hopsFrom_X2_aimOf rfl rfl rfl cdX2_aimOf ⟨Nat.le_of_ble_eq_true rfl, Nat.le_of_ble_eq_true rfl⟩) 11 2 rfl rfl hz rfl hl.1 rfl (Nat.le_of_ble_eq_true rfl) dX2_hopsFrom_25 ⟨Nat.le_refl _, Nat.le_refl _⟩ (fun H locs hz => ?_)
    refine lv_iconst (v := (-1 : Int32)) hx hb dX2_hopsFrom_28 (by decide) ?_
    refine lv_icmp_ne (tgt := 36) hx hb dX2_hopsFrom_29 (by decide) (fun c26 => ?_) (fun c26 => ?_)
    · replace h := ite_f c26 h
      refine lv_iconst (v := (0 : Int32)) hx hb dX2_hopsFrom_36 (by decide) ?_
      exact rt (0 : Int32) σ 37 _ _ _ dX2_hopsFrom_37 h hz
    · replace h := ite_t c26 h
      refine lv_iconst (v := (-1 : Int32)) hx hb dX2_hopsFrom_32 (by decide) ?_
      refine lv_goto (tgt := 37) hx hb dX2_hopsFrom_33 (by decide) ?_
      exact rt (-1 : Int32) σ 37 _ _ _ dX2_hopsFrom_37 h hz
def fX3_kindBegunBy (σ : St) (x1 : Int32) : Option (Int32) :=
  (if x1 = (58 : Int32) then (some (3 : Int32)) else (if x1 = (97 : Int32) then (some (4 : Int32)) else (if x1 = (98 : Int32) then (some (2 : Int32)) else (if x1 = (108 : Int32) then (some (1 : Int32)) else (if x1 = (110 : Int32) then (some (0 : Int32)) else (if x1 = (114 : Int32) then (some (5 : Int32)) else some (-1 : Int32)))))))
abbrev rmX3_kindBegunBy : Room := { frames := 0, cells := 0, slots := 0, locals := 0 }
set_option maxHeartbeats 4000000 in
set_option maxRecDepth 100000 in
theorem KX3_kindBegunBy {l : Launch} {dC : Nat → ClassId} {dI : Nat → Nat → Nat} {cI cZ : ClassId} {a : Nat → Nat} {σ : St} {x1 : Int32} {r : Int32} (hok : okA 30 a) (h : fX3_kindBegunBy σ x1 = some r) (sz : Nat) : Met l yX3_kindBegunBy wsX3_kindBegunBy rmX3_kindBegunBy (Pz (dC, dI) cI cZ (wdC cI cZ a σ) sz [.int x1]) (Qzi (dC, dI) 30 a (wdC cI cZ a σ) sz r) 0 0 (aN 30 a sz) := by
  refine Met.ofW (cc := cX3_kindBegunBy) (maxL := 1) (ret := (some .int)) (by decide) rfl ?_
  intro p e s m args below meth c s₁ B hml hv
  obtain ⟨hav, hsz, hP, hKK⟩ := hv
  have hx := B.exec
  have hb := B.bytes
  have hr := B.returns
  have hts := atoms_spec (ws := wsX3_kindBegunBy) B.pre
  have hown : s.vm.findClass RX3 = some m.cls := findClass_of_methodNamed B.named
  have hlocks := B.notSynchronized
  have CF : CallFix p m c cX3_kindBegunBy 1 s args wsX3_kindBegunBy RX3 := ⟨hx, hb, hml, hown, hts⟩
  have hz : zz (dC, dI) 30 a (wdC cI cZ a σ) s.heap s.heap [] := ⟨hP, va_S.rf⟩
  have hl := lv_entry [.int x1] (n := 1) (Nat.le_of_ble_eq_true rfl)
  have hen : entryFrame m args 1 = entryFrame m ([.int x1] : List Value).toArray 1 := by rw [hav]
  rw [hen, lg_entry_eq]
  generalize (lg_sl [.int x1] ++ List.replicate (1 - (lg_sl [.int x1]).length) Slot.unset).toArray = ls at hl ⊢
  have hl : lv_has ls 1 [(0, .int x1)] := hl
  have eR : (headSpec wsX3_kindBegunBy rmX3_kindBegunBy).room = rmX3_kindBegunBy := rfl
  rw [eR]
  have rt : ∀ (v : Int32) (t : St) (pc : Nat) (H : Heap) (locs : List Loc) (ls : Array Slot), decode cX3_kindBegunBy pc = .ok (.ireturn, 1) → some v = some r → zz (dC, dI) 30 a (wdC cI cZ a σ) s.heap H locs → W p l e rmX3_kindBegunBy s m args below meth c H locs 0 0 (MQ below (Qzi (dC, dI) 30 a (wdC cI cZ a σ) sz r) args s 0 0 (aN 30 a sz)) (F0 m pc ls [.int v]) := by
    intro v t pc H locs ls hd h hz
    cases h
    exact ziret hsz hx hb hr hlocks hz hd
  generalize (MQ below (Qzi (dC, dI) 30 a (wdC cI cZ a σ) sz r) args s 0 0 (aN 30 a sz)) = Q at rt ⊢
  unfold fX3_kindBegunBy at h
  refine lv_iload_n hx hb dX3_kindBegunBy_0 rfl (lv_at hl 0 rfl) ?_
  by_cases c1 : x1 = (58 : Int32)
  · replace h := ite_t c1 h
    refine lv_lookup (tgt := 66) (off := 65) hx hb dX3_kindBegunBy_1 (by decide) (by rw [c1]; rfl) (by decide) ?_
    refine lv_iconst (v := (3 : Int32)) hx hb dX3_kindBegunBy_66 (by decide) ?_
    exact rt (3 : Int32) σ 67 _ _ _ dX3_kindBegunBy_67 h hz
  replace h := ite_f c1 h
  by_cases c2 : x1 = (97 : Int32)
  · replace h := ite_t c2 h
    refine lv_lookup (tgt := 68) (off := 67) hx hb dX3_kindBegunBy_1 (by decide) (by rw [c2]; rfl) (by decide) ?_
    refine lv_iconst (v := (4 : Int32)) hx hb dX3_kindBegunBy_68 (by decide) ?_
    exact rt (4 : Int32) σ 69 _ _ _ dX3_kindBegunBy_69 h hz
  replace h := ite_f c2 h
  by_cases c3 : x1 = (98 : Int32)
  · replace h := ite_t c3 h
    refine lv_lookup (tgt := 64) (off := 63) hx hb dX3_kindBegunBy_1 (by decide) (by rw [c3]; rfl) (by decide) ?_
    refine lv_iconst (v := (2 : Int32)) hx hb dX3_kindBegunBy_64 (by decide) ?_
    exact rt (2 : Int32) σ 65 _ _ _ dX3_kindBegunBy_65 h hz
  replace h := ite_f c3 h
  by_cases c4 : x1 = (108 : Int32)
  · replace h := ite_t c4 h
    refine lv_lookup (tgt := 62) (off := 61) hx hb dX3_kindBegunBy_1 (by decide) (by rw [c4]; rfl) (by decide) ?_
    refine lv_iconst (v := (1 : Int32)) hx hb dX3_kindBegunBy_62 (by decide) ?_
    exact rt (1 : Int32) σ 63 _ _ _ dX3_kindBegunBy_63 h hz
  replace h := ite_f c4 h
  by_cases c5 : x1 = (110 : Int32)
  · replace h := ite_t c5 h
    refine lv_lookup (tgt := 60) (off := 59) hx hb dX3_kindBegunBy_1 (by decide) (by rw [c5]; rfl) (by decide) ?_
    refine lv_iconst (v := (0 : Int32)) hx hb dX3_kindBegunBy_60 (by decide) ?_
    exact rt (0 : Int32) σ 61 _ _ _ dX3_kindBegunBy_61 h hz
  replace h := ite_f c5 h
  by_cases c6 : x1 = (114 : Int32)
  · replace h := ite_t c6 h
    refine lv_lookup (tgt := 70) (off := 69) hx hb dX3_kindBegunBy_1 (by decide) (by rw [c6]; rfl) (by decide) ?_
    refine lv_iconst (v := (5 : Int32)) hx hb dX3_kindBegunBy_70 (by decide) ?_
    exact rt (5 : Int32) σ 71 _ _ _ dX3_kindBegunBy_71 h hz
  replace h := ite_f c6 h
  refine lv_lookup (tgt := 72) (off := 71) hx hb dX3_kindBegunBy_1 (by decide) (by show Op.lookupswitch.offset [(58, 65), (97, 67), (98, 63), (108, 61), (110, 59), (114, 69)] 71 _ = _; rw [lv_osw c1 (a := 58) rfl, lv_osw c2 (a := 97) rfl, lv_osw c3 (a := 98) rfl, lv_osw c4 (a := 108) rfl, lv_osw c5 (a := 110) rfl, lv_osw c6 (a := 114) rfl]; rfl) (by decide) ?_
  refine lv_iconst (v := (-1 : Int32)) hx hb dX3_kindBegunBy_72 (by decide) ?_
  exact rt (-1 : Int32) σ 73 _ _ _ dX3_kindBegunBy_73 h hz
def fX3_begins_b56  (σ : St) (y2 : Int32) : Option (Int32 × St) :=
  some ((1 : Int32), (si σ 43 y2))
def fX3_begins (σ : St) (x1 : Int32) : Option (Int32 × St) :=
  (bd1 (fX3_kindBegunBy σ x1) fun r1 => (if r1 = (-1 : Int32) then (some ((0 : Int32), σ)) else ((bd1 (fX0_size_r σ ) fun r5 => (if r5 < (24 : Int32) then ((if r1 = (5 : Int32) then ((bd2 (fX0_add_r σ (5 : Int32) (0 : Int32)) fun r12 s13 => (ck (r12 = 0 ∨ r12 = 1) <| some (r12, s13)))) else ((if r1 = (3 : Int32) then ((if (σ 44 0) = (255 : Int32) then (some ((0 : Int32), σ)) else (fX3_begins_b56  σ r1))) else (fX3_begins_b56  σ r1))))) else (some ((0 : Int32), σ)))))))
abbrev rmX3_begins : Room := { frames := 1, cells := 0, slots := 0, locals := 22 }
set_option maxHeartbeats 4000000 in
set_option maxRecDepth 100000 in
theorem KX3_begins {l : Launch} {dC : Nat → ClassId} {dI : Nat → Nat → Nat} {cI cZ : ClassId} {a : Nat → Nat} {σ : St} {x1 : Int32} {r : Int32} {σ2 : St} (hok : okA 30 a) (h : fX3_begins σ x1 = some (r, σ2)) (sz : Nat) : Met l yX3_begins wsX3_begins rmX3_begins (Pz (dC, dI) cI cZ (wdC cI cZ a σ) sz [.ref (a 3), .int x1]) (Qzi (dC, dI) 30 a (wdC cI cZ a σ2) sz r) 0 0 (aN 30 a sz) := by
  refine Met.ofW (cc := cX3_begins) (maxL := 3) (ret := (some .boolean)) (by decide) rfl ?_
  intro p e s m args below meth c s₁ B hml hv
  obtain ⟨hav, hsz, hP, hKK⟩ := hv
  have hx := B.exec
  have hb := B.bytes
  have hr := B.returns
  have hts := atoms_spec (ws := wsX3_begins) B.pre
  have hown : s.vm.findClass RX3 = some m.cls := findClass_of_methodNamed B.named
  have hlocks := B.notSynchronized
  have CF : CallFix p m c cX3_begins 3 s args wsX3_begins RX3 := ⟨hx, hb, hml, hown, hts⟩
  have hz : zz (dC, dI) 30 a (wdC cI cZ a σ) s.heap s.heap [] := ⟨hP, va_S.rf⟩
  have hl := lv_entry [.ref (a 3), .int x1] (n := 3) (Nat.le_of_ble_eq_true rfl)
  have hen : entryFrame m args 3 = entryFrame m ([.ref (a 3), .int x1] : List Value).toArray 3 := by rw [hav]
  rw [hen, lg_entry_eq]
  generalize (lg_sl [.ref (a 3), .int x1] ++ List.replicate (3 - (lg_sl [.ref (a 3), .int x1]).length) Slot.unset).toArray = ls at hl ⊢
  have hl : lv_has ls 3 [(0, .ref (a 3)), (1, .int x1)] := hl
  have eR : (headSpec wsX3_begins rmX3_begins).room = rmX3_begins := rfl
  rw [eR]
  have rt : ∀ (v : Int32) (t : St) (pc : Nat) (H : Heap) (locs : List Loc) (ls : Array Slot), decode cX3_begins pc = .ok (.ireturn, 1) → some (v, t) = some (r, σ2) → zz (dC, dI) 30 a (wdC cI cZ a t) s.heap H locs → (v = 0 ∨ v = 1) → W p l e rmX3_begins s m args below meth c H locs 0 0 (MQ below (Qzi (dC, dI) 30 a (wdC cI cZ a σ2) sz r) args s 0 0 (aN 30 a sz)) (F0 m pc ls [.int v]) := by
    intro v t pc H locs ls hd h hz hv
    cases h
    exact zzret hsz hx hb hr hlocks hv hz hd
  generalize (MQ below (Qzi (dC, dI) 30 a (wdC cI cZ a σ2) sz r) args s 0 0 (aN 30 a sz)) = Q at rt ⊢
  have b56 : ∀  (σ : St) (y2 : Int32) (H : Heap) (locs : List Loc) (ls : Array Slot), fX3_begins_b56  σ y2 = some (r, σ2) → zz (dC, dI) 30 a (wdC cI cZ a σ) s.heap H locs → lv_has ls 3 [(0, .ref (a 3)), (2, .int y2)] → W p l e rmX3_begins s m args below meth c H locs 0 0 Q (F0 m 56 ls []) := by
    intro  σ y2 H locs ls h hz hl
    unfold fX3_begins_b56 at h
    refine lv_aload_n hx hb dX3_begins_56 rfl (lv_at hl 0 rfl) ?_
    refine lv_iload_n hx hb dX3_begins_57 rfl (lv_at hl 1 rfl) ?_
    refine zput (ty := .int) (w' := wdC cI cZ a (si σ 43 y2)) hx hb hts inX3_begins_X3 tyX3 tyX3_ok nmX3 hown hKK hok wkC hz 3 rfl rfl 1 (by decide) (hts _ (List.mem_of_getElem? (i := 3) rfl)) (fun _ h9 => h9) rfl rfl rfl rfl (Nat.le_of_ble_eq_true rfl) setCi_43 dX3_begins_58 (fun H locs hz => ?_)
    refine lv_iconst (v := (1 : Int32)) hx hb dX3_begins_61 (by decide) ?_
    exact rt (1 : Int32) (si σ 43 y2) 62 _ _ _ dX3_begins_62 h hz (Or.inr rfl)
  unfold fX3_begins at h
  refine lv_iload_n hx hb dX3_begins_0 rfl (lv_at hl 1 rfl) ?_
  obtain ⟨r1, e3, h⟩ := bd1_e h
  refine zcallSi (As := [.int x1]) (rest := []) CF hKK (KX3_kindBegunBy (dC := dC) (dI := dI) (cI := cI) (cZ := cZ) (a := a) hok e3) (va_cwS 1 hts gX3_begins_X3_kindBegunBy rfl rfl rfl cdX3_kindBegunBy.2 ⟨Nat.le_of_ble_eq_true rfl, Nat.le_of_ble_eq_true rfl⟩) hz rfl hl.1 rfl (Nat.le_of_ble_eq_true rfl) dX3_begins_1 ⟨Nat.le_refl _, Nat.le_refl _⟩ (fun H locs hz => ?_)
  refine lv_istore_n (lv' := [(2, .int r1), (0, .ref (a 3)), (1, .int x1)]) hx hb dX3_begins_4 rfl hl (by decide) rfl (fun ls hl => ?_)
  refine lv_iload_n hx hb dX3_begins_5 rfl (lv_at hl 0 rfl) ?_
  refine lv_iconst (v := (-1 : Int32)) hx hb dX3_begins_6 (by decide) ?_
  refine lv_icmp_eq (tgt := 22) hx hb dX3_begins_7 (by decide) (fun c4 => ?_) (fun c4 => ?_)
  · replace h := ite_t c4 h
    refine lv_iconst (v := (0 : Int32)) hx hb dX3_begins_22 (by decide) ?_
    exact rt (0 : Int32) σ 23 _ _ _ dX3_begins_23 h hz (Or.inl rfl)
  · replace h := ite_f c4 h
    refine lv_aload_n hx hb dX3_begins_10 rfl (lv_at hl 1 rfl) ?_
    refine va_get (v := .ref (a 4)) hx hb hts inX3_begins_X3 hown hKK.1 hz.1 3 rfl rfl 0 (by decide) (hts _ (List.mem_of_getElem? (i := 1) rfl)) (fun _ h9 => h9) rfl dX3_begins_11 ?_
    obtain ⟨r5, e7, h⟩ := bd1_e h
    refine zcallVi (As := []) (rest := []) CF hKK (KX0_size_r (dC := dC) (dI := dI) (cI := cI) (cZ := cZ) (a := a) hok e7) (cwV 0 hts gX3_begins_X0_size rfl rfl rfl cdX0_size ⟨Nat.le_of_ble_eq_true rfl, Nat.le_of_ble_eq_true rfl⟩) 4 0 rfl rfl hz rfl hl.1 rfl (Nat.le_of_ble_eq_true rfl) dX3_begins_14 ⟨Nat.le_refl _, Nat.le_refl _⟩ (fun H locs hz => ?_)
    refine lv_bipush (v := (24 : Int32)) hx hb dX3_begins_17 (by decide) ?_
    refine lv_icmp_lt (tgt := 24) hx hb dX3_begins_19 (by decide) (fun c8 => ?_) (fun c8 => ?_)
    · replace h := ite_t c8 h
      refine lv_iload_n hx hb dX3_begins_24 rfl (lv_at hl 0 rfl) ?_
      refine lv_iconst (v := (5 : Int32)) hx hb dX3_begins_25 (by decide) ?_
      refine lv_icmp_ne (tgt := 39) hx hb dX3_begins_26 (by decide) (fun c9 => ?_) (fun c9 => ?_)
      · replace h := ite_f c9 h
        refine lv_iload_n hx hb dX3_begins_39 rfl (lv_at hl 0 rfl) ?_
        refine lv_iconst (v := (3 : Int32)) hx hb dX3_begins_40 (by decide) ?_
        refine lv_icmp_ne (tgt := 56) hx hb dX3_begins_41 (by decide) (fun c10 => ?_) (fun c10 => ?_)
        · replace h := ite_f c10 h
          exact b56  σ r1 _ _ _ h hz (lv_sub hl [1, 0] rfl)
        · replace h := ite_t c10 h
          refine lv_aload_n hx hb dX3_begins_44 rfl (lv_at hl 1 rfl) ?_
          refine va_get (v := .int (σ 44 0)) hx hb hts inX3_begins_X3 hown hKK.1 hz.1 3 rfl rfl 2 (by decide) (hts _ (List.mem_of_getElem? (i := 2) rfl)) (fun _ h9 => h9) rfl dX3_begins_45 ?_
          refine lv_sipush (v := (255 : Int32)) hx hb dX3_begins_48 (by decide) ?_
          refine lv_icmp_ne (tgt := 56) hx hb dX3_begins_51 (by decide) (fun c11 => ?_) (fun c11 => ?_)
          · replace h := ite_f c11 h
            exact b56  σ r1 _ _ _ h hz (lv_sub hl [1, 0] rfl)
          · replace h := ite_t c11 h
            refine lv_iconst (v := (0 : Int32)) hx hb dX3_begins_54 (by decide) ?_
            exact rt (0 : Int32) σ 55 _ _ _ dX3_begins_55 h hz (Or.inl rfl)
      · replace h := ite_t c9 h
        refine lv_aload_n hx hb dX3_begins_29 rfl (lv_at hl 1 rfl) ?_
        refine va_get (v := .ref (a 4)) hx hb hts inX3_begins_X3 hown hKK.1 hz.1 3 rfl rfl 0 (by decide) (hts _ (List.mem_of_getElem? (i := 1) rfl)) (fun _ h9 => h9) rfl dX3_begins_30 ?_
        refine lv_iconst (v := (5 : Int32)) hx hb dX3_begins_33 (by decide) ?_
        refine lv_iconst (v := (0 : Int32)) hx hb dX3_begins_34 (by decide) ?_
        obtain ⟨r12, s13, e14, h⟩ := bd2_e h
        refine zcallVi (As := [.int (5 : Int32), .int (0 : Int32)]) (rest := []) CF hKK (KX0_add_r (dC := dC) (dI := dI) (cI := cI) (cZ := cZ) (a := a) hok e14) (cwV 2 hts gX3_begins_X0_add rfl rfl rfl cdX0_add ⟨Nat.le_of_ble_eq_true rfl, Nat.le_of_ble_eq_true rfl⟩) 4 0 rfl rfl hz rfl hl.1 rfl (Nat.le_of_ble_eq_true rfl) dX3_begins_35 ⟨Nat.le_refl _, Nat.le_refl _⟩ (fun H locs hz => ?_)
        obtain ⟨c15, h⟩ := ck_e h
        exact rt r12 s13 38 _ _ _ dX3_begins_38 h hz c15
    · replace h := ite_f c8 h
      refine lv_iconst (v := (0 : Int32)) hx hb dX3_begins_22 (by decide) ?_
      exact rt (0 : Int32) σ 23 _ _ _ dX3_begins_23 h hz (Or.inl rfl)
def fX3_endsWithLabel (σ : St) (x1 : Int32) (x2 : Int32) : Option (Int32 × St) :=
  (if x1 = (2 : Int32) then ((bd2 (fX0_add_r (si σ 45 ((σ 45 0) ||| ((1 : Int32) <<< (x2 &&& 31)))) (2 : Int32) x2) fun r7 s8 => (ck (r7 = 0 ∨ r7 = 1) <| some (r7, s8)))) else ((if ((σ 44 0) &&& ((1 : Int32) <<< (x2 &&& 31))) = 0 then ((bd2 (fX0_add_r (si σ 44 ((σ 44 0) ||| ((1 : Int32) <<< (x2 &&& 31)))) (3 : Int32) x2) fun r3 s4 => (ck (r3 = 0 ∨ r3 = 1) <| some (r3, s4)))) else (some ((0 : Int32), σ)))))
abbrev rmX3_endsWithLabel : Room := { frames := 1, cells := 0, slots := 0, locals := 22 }
set_option maxHeartbeats 4000000 in
set_option maxRecDepth 100000 in
theorem KX3_endsWithLabel {l : Launch} {dC : Nat → ClassId} {dI : Nat → Nat → Nat} {cI cZ : ClassId} {a : Nat → Nat} {σ : St} {x1 : Int32} {x2 : Int32} {r : Int32} {σ2 : St} (hok : okA 30 a) (h : fX3_endsWithLabel σ x1 x2 = some (r, σ2)) (sz : Nat) : Met l yX3_endsWithLabel wsX3_endsWithLabel rmX3_endsWithLabel (Pz (dC, dI) cI cZ (wdC cI cZ a σ) sz [.ref (a 3), .int x1, .int x2]) (Qzi (dC, dI) 30 a (wdC cI cZ a σ2) sz r) 0 0 (aN 30 a sz) := by
  refine Met.ofW (cc := cX3_endsWithLabel) (maxL := 4) (ret := (some .boolean)) (by decide) rfl ?_
  intro p e s m args below meth c s₁ B hml hv
  obtain ⟨hav, hsz, hP, hKK⟩ := hv
  have hx := B.exec
  have hb := B.bytes
  have hr := B.returns
  have hts := atoms_spec (ws := wsX3_endsWithLabel) B.pre
  have hown : s.vm.findClass RX3 = some m.cls := findClass_of_methodNamed B.named
  have hlocks := B.notSynchronized
  have CF : CallFix p m c cX3_endsWithLabel 4 s args wsX3_endsWithLabel RX3 := ⟨hx, hb, hml, hown, hts⟩
  have hz : zz (dC, dI) 30 a (wdC cI cZ a σ) s.heap s.heap [] := ⟨hP, va_S.rf⟩
  have hl := lv_entry [.ref (a 3), .int x1, .int x2] (n := 4) (Nat.le_of_ble_eq_true rfl)
  have hen : entryFrame m args 4 = entryFrame m ([.ref (a 3), .int x1, .int x2] : List Value).toArray 4 := by rw [hav]
  rw [hen, lg_entry_eq]
  generalize (lg_sl [.ref (a 3), .int x1, .int x2] ++ List.replicate (4 - (lg_sl [.ref (a 3), .int x1, .int x2]).length) Slot.unset).toArray = ls at hl ⊢
  have hl : lv_has ls 4 [(0, .ref (a 3)), (1, .int x1), (2, .int x2)] := hl
  have eR : (headSpec wsX3_endsWithLabel rmX3_endsWithLabel).room = rmX3_endsWithLabel := rfl
  rw [eR]
  have rt : ∀ (v : Int32) (t : St) (pc : Nat) (H : Heap) (locs : List Loc) (ls : Array Slot), decode cX3_endsWithLabel pc = .ok (.ireturn, 1) → some (v, t) = some (r, σ2) → zz (dC, dI) 30 a (wdC cI cZ a t) s.heap H locs → (v = 0 ∨ v = 1) → W p l e rmX3_endsWithLabel s m args below meth c H locs 0 0 (MQ below (Qzi (dC, dI) 30 a (wdC cI cZ a σ2) sz r) args s 0 0 (aN 30 a sz)) (F0 m pc ls [.int v]) := by
    intro v t pc H locs ls hd h hz hv
    cases h
    exact zzret hsz hx hb hr hlocks hv hz hd
  generalize (MQ below (Qzi (dC, dI) 30 a (wdC cI cZ a σ2) sz r) args s 0 0 (aN 30 a sz)) = Q at rt ⊢
  unfold fX3_endsWithLabel at h
  refine lv_iconst (v := (1 : Int32)) hx hb dX3_endsWithLabel_0 (by decide) ?_
  refine lv_iload_n hx hb dX3_endsWithLabel_1 rfl (lv_at hl 2 rfl) ?_
  refine lv_ishl hx hb dX3_endsWithLabel_2 ?_
  refine lv_istore_n (lv' := [(3, .int ((1 : Int32) <<< (x2 &&& 31))), (0, .ref (a 3)), (1, .int x1), (2, .int x2)]) hx hb dX3_endsWithLabel_3 rfl hl (by decide) rfl (fun ls hl => ?_)
  refine lv_iload_n hx hb dX3_endsWithLabel_4 rfl (lv_at hl 2 rfl) ?_
  refine lv_iconst (v := (2 : Int32)) hx hb dX3_endsWithLabel_5 (by decide) ?_
  refine lv_icmp_ne (tgt := 29) hx hb dX3_endsWithLabel_6 (by decide) (fun c1 => ?_) (fun c1 => ?_)
  · replace h := ite_f c1 h
    refine lv_aload_n hx hb dX3_endsWithLabel_29 rfl (lv_at hl 1 rfl) ?_
    refine va_get (v := .int (σ 44 0)) hx hb hts inX3_endsWithLabel_X3 hown hKK.1 hz.1 3 rfl rfl 2 (by decide) (hts _ (List.mem_of_getElem? (i := 3) rfl)) (fun _ h9 => h9) rfl dX3_endsWithLabel_30 ?_
    refine lv_iload_n hx hb dX3_endsWithLabel_33 rfl (lv_at hl 0 rfl) ?_
    refine lv_iand hx hb dX3_endsWithLabel_34 ?_
    refine lv_if_eq (tgt := 40) hx hb dX3_endsWithLabel_35 (by decide) (fun c2 => ?_) (fun c2 => ?_)
    · replace h := ite_t c2 h
      refine lv_aload_n hx hb dX3_endsWithLabel_40 rfl (lv_at hl 1 rfl) ?_
      refine lv_dup hx hb dX3_endsWithLabel_41 rfl ?_
      refine va_get (v := .int (σ 44 0)) hx hb hts inX3_endsWithLabel_X3 hown hKK.1 hz.1 3 rfl rfl 2 (by decide) (hts _ (List.mem_of_getElem? (i := 3) rfl)) (fun _ h9 => h9) rfl dX3_endsWithLabel_42 ?_
      refine lv_iload_n hx hb dX3_endsWithLabel_45 rfl (lv_at hl 0 rfl) ?_
      refine lv_ior hx hb dX3_endsWithLabel_46 ?_
      refine zput (ty := .int) (w' := wdC cI cZ a (si σ 44 ((σ 44 0) ||| ((1 : Int32) <<< (x2 &&& 31))))) hx hb hts inX3_endsWithLabel_X3 tyX3 tyX3_ok nmX3 hown hKK hok wkC hz 3 rfl rfl 2 (by decide) (hts _ (List.mem_of_getElem? (i := 3) rfl)) (fun _ h9 => h9) rfl rfl rfl rfl (Nat.le_of_ble_eq_true rfl) setCi_44 dX3_endsWithLabel_47 (fun H locs hz => ?_)
      refine lv_aload_n hx hb dX3_endsWithLabel_50 rfl (lv_at hl 1 rfl) ?_
      refine va_get (v := .ref (a 4)) hx hb hts inX3_endsWithLabel_X3 hown hKK.1 hz.1 3 rfl rfl 0 (by decide) (hts _ (List.mem_of_getElem? (i := 2) rfl)) (fun _ h9 => h9) rfl dX3_endsWithLabel_51 ?_
      refine lv_iconst (v := (3 : Int32)) hx hb dX3_endsWithLabel_54 (by decide) ?_
      refine lv_iload_n hx hb dX3_endsWithLabel_55 rfl (lv_at hl 3 rfl) ?_
      obtain ⟨r3, s4, e5, h⟩ := bd2_e h
      refine zcallVi (As := [.int (3 : Int32), .int x2]) (rest := []) CF hKK (KX0_add_r (dC := dC) (dI := dI) (cI := cI) (cZ := cZ) (a := a) hok e5) (cwV 2 hts gX3_endsWithLabel_X0_add rfl rfl rfl cdX0_add ⟨Nat.le_of_ble_eq_true rfl, Nat.le_of_ble_eq_true rfl⟩) 4 0 rfl rfl hz rfl hl.1 rfl (Nat.le_of_ble_eq_true rfl) dX3_endsWithLabel_56 ⟨Nat.le_refl _, Nat.le_refl _⟩ (fun H locs hz => ?_)
      obtain ⟨c6, h⟩ := ck_e h
      exact rt r3 s4 59 _ _ _ dX3_endsWithLabel_59 h hz c6
    · replace h := ite_f c2 h
      refine lv_iconst (v := (0 : Int32)) hx hb dX3_endsWithLabel_38 (by decide) ?_
      exact rt (0 : Int32) σ 39 _ _ _ dX3_endsWithLabel_39 h hz (Or.inl rfl)
  · replace h := ite_t c1 h
    refine lv_aload_n hx hb dX3_endsWithLabel_9 rfl (lv_at hl 1 rfl) ?_
    refine lv_dup hx hb dX3_endsWithLabel_10 rfl ?_
    refine va_get (v := .int (σ 45 0)) hx hb hts inX3_endsWithLabel_X3 hown hKK.1 hz.1 3 rfl rfl 3 (by decide) (hts _ (List.mem_of_getElem? (i := 1) rfl)) (fun _ h9 => h9) rfl dX3_endsWithLabel_11 ?_
    refine lv_iload_n hx hb dX3_endsWithLabel_14 rfl (lv_at hl 0 rfl) ?_
    refine lv_ior hx hb dX3_endsWithLabel_15 ?_
    refine zput (ty := .int) (w' := wdC cI cZ a (si σ 45 ((σ 45 0) ||| ((1 : Int32) <<< (x2 &&& 31))))) hx hb hts inX3_endsWithLabel_X3 tyX3 tyX3_ok nmX3 hown hKK hok wkC hz 3 rfl rfl 3 (by decide) (hts _ (List.mem_of_getElem? (i := 1) rfl)) (fun _ h9 => h9) rfl rfl rfl rfl (Nat.le_of_ble_eq_true rfl) setCi_45 dX3_endsWithLabel_16 (fun H locs hz => ?_)
    refine lv_aload_n hx hb dX3_endsWithLabel_19 rfl (lv_at hl 1 rfl) ?_
    refine va_get (v := .ref (a 4)) hx hb hts inX3_endsWithLabel_X3 hown hKK.1 hz.1 3 rfl rfl 0 (by decide) (hts _ (List.mem_of_getElem? (i := 2) rfl)) (fun _ h9 => h9) rfl dX3_endsWithLabel_20 ?_
    refine lv_iconst (v := (2 : Int32)) hx hb dX3_endsWithLabel_23 (by decide) ?_
    refine lv_iload_n hx hb dX3_endsWithLabel_24 rfl (lv_at hl 3 rfl) ?_
    obtain ⟨r7, s8, e9, h⟩ := bd2_e h
    refine zcallVi (As := [.int (2 : Int32), .int x2]) (rest := []) CF hKK (KX0_add_r (dC := dC) (dI := dI) (cI := cI) (cZ := cZ) (a := a) hok e9) (cwV 2 hts gX3_endsWithLabel_X0_add rfl rfl rfl cdX0_add ⟨Nat.le_of_ble_eq_true rfl, Nat.le_of_ble_eq_true rfl⟩) 4 0 rfl rfl hz rfl hl.1 rfl (Nat.le_of_ble_eq_true rfl) dX3_endsWithLabel_25 ⟨Nat.le_refl _, Nat.le_refl _⟩ (fun H locs hz => ?_)
    obtain ⟨c10, h⟩ := ck_e h
    exact rt r7 s8 28 _ _ _ dX3_endsWithLabel_28 h hz c10
def fX3_ends_b145  (σ : St) (y1 : Int32) (y2 : Int32) : Option (Int32 × St) :=
  (if y1 < (65 : Int32) then (some ((0 : Int32), σ)) else ((if (73 : Int32) ≤ y1 then (some ((0 : Int32), σ)) else ((bd2 (fX3_endsWithLabel σ y2 (y1 - (65 : Int32))) fun r24 s25 => (if r24 = 0 then (some ((0 : Int32), s25)) else (some ((1 : Int32), s25))))))))
def fX3_ends (σ : St) (x1 : Int32) : Option (Int32 × St) :=
  (if (σ 43 0) = (0 : Int32) then ((if x1 < (49 : Int32) then (some ((0 : Int32), (si σ 43 (-1 : Int32)))) else ((if (57 : Int32) < x1 then (some ((0 : Int32), (si σ 43 (-1 : Int32)))) else ((bd2 (fX0_add_r (si σ 43 (-1 : Int32)) (0 : Int32) (x1 - (48 : Int32))) fun r4 s5 => (if r4 = 0 then (some ((0 : Int32), s5)) else (some ((1 : Int32), s5))))))))) else (if (σ 43 0) = (1 : Int32) then ((if x1 < (48 : Int32) then (some ((0 : Int32), (si σ 43 (-1 : Int32)))) else ((if (57 : Int32) < x1 then (some ((0 : Int32), (si σ 43 (-1 : Int32)))) else ((bd2 (fX0_add_r (si σ 43 (-1 : Int32)) (1 : Int32) (x1 - (48 : Int32))) fun r11 s12 => (if r11 = 0 then (some ((0 : Int32), s12)) else (some ((1 : Int32), s12))))))))) else (if (σ 43 0) = (4 : Int32) then ((if x1 < (49 : Int32) then (some ((0 : Int32), (si σ 43 (-1 : Int32)))) else ((if (51 : Int32) < x1 then (some ((0 : Int32), (si σ 43 (-1 : Int32)))) else ((bd2 (fX0_add_r (si σ 43 (-1 : Int32)) (4 : Int32) ((1 : Int32) <<< ((x1 - (48 : Int32)) &&& 31))) fun r18 s19 => (if r18 = 0 then (some ((0 : Int32), s19)) else (some ((1 : Int32), s19))))))))) else fX3_ends_b145  (si σ 43 (-1 : Int32)) x1 (σ 43 0))))
abbrev rmX3_ends : Room := { frames := 2, cells := 0, slots := 0, locals := 45 }
set_option maxHeartbeats 4000000 in
set_option maxRecDepth 100000 in
theorem KX3_ends {l : Launch} {dC : Nat → ClassId} {dI : Nat → Nat → Nat} {cI cZ : ClassId} {a : Nat → Nat} {σ : St} {x1 : Int32} {r : Int32} {σ2 : St} (hok : okA 30 a) (h : fX3_ends σ x1 = some (r, σ2)) (sz : Nat) : Met l yX3_ends wsX3_ends rmX3_ends (Pz (dC, dI) cI cZ (wdC cI cZ a σ) sz [.ref (a 3), .int x1]) (Qzi (dC, dI) 30 a (wdC cI cZ a σ2) sz r) 0 0 (aN 30 a sz) := by
  refine Met.ofW (cc := cX3_ends) (maxL := 3) (ret := (some .boolean)) (by decide) rfl ?_
  intro p e s m args below meth c s₁ B hml hv
  obtain ⟨hav, hsz, hP, hKK⟩ := hv
  have hx := B.exec
  have hb := B.bytes
  have hr := B.returns
  have hts := atoms_spec (ws := wsX3_ends) B.pre
  have hown : s.vm.findClass RX3 = some m.cls := findClass_of_methodNamed B.named
  have hlocks := B.notSynchronized
  have CF : CallFix p m c cX3_ends 3 s args wsX3_ends RX3 := ⟨hx, hb, hml, hown, hts⟩
  have hz : zz (dC, dI) 30 a (wdC cI cZ a σ) s.heap s.heap [] := ⟨hP, va_S.rf⟩
  have hl := lv_entry [.ref (a 3), .int x1] (n := 3) (Nat.le_of_ble_eq_true rfl)
  have hen : entryFrame m args 3 = entryFrame m ([.ref (a 3), .int x1] : List Value).toArray 3 := by rw [hav]
  rw [hen, lg_entry_eq]
  generalize (lg_sl [.ref (a 3), .int x1] ++ List.replicate (3 - (lg_sl [.ref (a 3), .int x1]).length) Slot.unset).toArray = ls at hl ⊢
  have hl : lv_has ls 3 [(0, .ref (a 3)), (1, .int x1)] := hl
  have eR : (headSpec wsX3_ends rmX3_ends).room = rmX3_ends := rfl
  rw [eR]
  have rt : ∀ (v : Int32) (t : St) (pc : Nat) (H : Heap) (locs : List Loc) (ls : Array Slot), decode cX3_ends pc = .ok (.ireturn, 1) → some (v, t) = some (r, σ2) → zz (dC, dI) 30 a (wdC cI cZ a t) s.heap H locs → (v = 0 ∨ v = 1) → W p l e rmX3_ends s m args below meth c H locs 0 0 (MQ below (Qzi (dC, dI) 30 a (wdC cI cZ a σ2) sz r) args s 0 0 (aN 30 a sz)) (F0 m pc ls [.int v]) := by
    intro v t pc H locs ls hd h hz hv
    cases h
    exact zzret hsz hx hb hr hlocks hv hz hd
  generalize (MQ below (Qzi (dC, dI) 30 a (wdC cI cZ a σ2) sz r) args s 0 0 (aN 30 a sz)) = Q at rt ⊢
  have b145 : ∀  (σ : St) (y1 : Int32) (y2 : Int32) (H : Heap) (locs : List Loc) (ls : Array Slot), fX3_ends_b145  σ y1 y2 = some (r, σ2) → zz (dC, dI) 30 a (wdC cI cZ a σ) s.heap H locs → lv_has ls 3 [(0, .ref (a 3)), (1, .int y1), (2, .int y2)] → W p l e rmX3_ends s m args below meth c H locs 0 0 Q (F0 m 145 ls []) := by
    intro  σ y1 y2 H locs ls h hz hl
    unfold fX3_ends_b145 at h
    refine lv_iload_n hx hb dX3_ends_145 rfl (lv_at hl 1 rfl) ?_
    refine lv_bipush (v := (65 : Int32)) hx hb dX3_ends_146 (by decide) ?_
    refine lv_icmp_lt (tgt := 173) hx hb dX3_ends_148 (by decide) (fun c22 => ?_) (fun c22 => ?_)
    · replace h := ite_t c22 h
      refine lv_iconst (v := (0 : Int32)) hx hb dX3_ends_173 (by decide) ?_
      exact rt (0 : Int32) σ 174 _ _ _ dX3_ends_174 h hz (Or.inl rfl)
    · replace h := ite_f c22 h
      refine lv_iload_n hx hb dX3_ends_151 rfl (lv_at hl 1 rfl) ?_
      refine lv_bipush (v := (73 : Int32)) hx hb dX3_ends_152 (by decide) ?_
      refine lv_icmp_ge (tgt := 173) hx hb dX3_ends_154 (by decide) (fun c23 => ?_) (fun c23 => ?_)
      · replace h := ite_t c23 h
        refine lv_iconst (v := (0 : Int32)) hx hb dX3_ends_173 (by decide) ?_
        exact rt (0 : Int32) σ 174 _ _ _ dX3_ends_174 h hz (Or.inl rfl)
      · replace h := ite_f c23 h
        refine lv_aload_n hx hb dX3_ends_157 rfl (lv_at hl 0 rfl) ?_
        refine lv_iload_n hx hb dX3_ends_158 rfl (lv_at hl 2 rfl) ?_
        refine lv_iload_n hx hb dX3_ends_159 rfl (lv_at hl 1 rfl) ?_
        refine lv_bipush (v := (65 : Int32)) hx hb dX3_ends_160 (by decide) ?_
        refine lv_isub hx hb dX3_ends_162 ?_
        obtain ⟨r24, s25, e26, h⟩ := bd2_e h
        refine zcallVi (As := [.int y2, .int (y1 - (65 : Int32))]) (rest := []) CF hKK (KX3_endsWithLabel (dC := dC) (dI := dI) (cI := cI) (cZ := cZ) (a := a) hok e26) (cwV 2 hts gX3_ends_X3_endsWithLabel rfl rfl rfl cdX3_endsWithLabel ⟨Nat.le_of_ble_eq_true rfl, Nat.le_of_ble_eq_true rfl⟩) 3 3 rfl rfl hz rfl hl.1 rfl (Nat.le_of_ble_eq_true rfl) dX3_ends_163 ⟨Nat.le_refl _, Nat.le_refl _⟩ (fun H locs hz => ?_)
        refine lv_if_eq (tgt := 173) hx hb dX3_ends_166 (by decide) (fun c27 => ?_) (fun c27 => ?_)
        · replace h := ite_t c27 h
          refine lv_iconst (v := (0 : Int32)) hx hb dX3_ends_173 (by decide) ?_
          exact rt (0 : Int32) s25 174 _ _ _ dX3_ends_174 h hz (Or.inl rfl)
        · replace h := ite_f c27 h
          refine lv_iconst (v := (1 : Int32)) hx hb dX3_ends_169 (by decide) ?_
          refine lv_goto (tgt := 174) hx hb dX3_ends_170 (by decide) ?_
          exact rt (1 : Int32) s25 174 _ _ _ dX3_ends_174 h hz (Or.inr rfl)
  unfold fX3_ends at h
  refine lv_aload_n hx hb dX3_ends_0 rfl (lv_at hl 0 rfl) ?_
  refine va_get (v := .int (σ 43 0)) hx hb hts inX3_ends_X3 hown hKK.1 hz.1 3 rfl rfl 1 (by decide) (hts _ (List.mem_of_getElem? (i := 1) rfl)) (fun _ h9 => h9) rfl dX3_ends_1 ?_
  refine lv_istore_n (lv' := [(2, .int (σ 43 0)), (0, .ref (a 3)), (1, .int x1)]) hx hb dX3_ends_4 rfl hl (by decide) rfl (fun ls hl => ?_)
  refine lv_aload_n hx hb dX3_ends_5 rfl (lv_at hl 1 rfl) ?_
  refine lv_iconst (v := (-1 : Int32)) hx hb dX3_ends_6 (by decide) ?_
  refine zput (ty := .int) (w' := wdC cI cZ a (si σ 43 (-1 : Int32))) hx hb hts inX3_ends_X3 tyX3 tyX3_ok nmX3 hown hKK hok wkC hz 3 rfl rfl 1 (by decide) (hts _ (List.mem_of_getElem? (i := 1) rfl)) (fun _ h9 => h9) rfl rfl rfl rfl (Nat.le_of_ble_eq_true rfl) setCi_43 dX3_ends_7 (fun H locs hz => ?_)
  refine lv_iload_n hx hb dX3_ends_10 rfl (lv_at hl 0 rfl) ?_
  by_cases c1 : (σ 43 0) = (0 : Int32)
  · replace h := ite_t c1 h
    refine lv_tableIn (tgt := 44) (off := 33) hx hb dX3_ends_11 (by rw [c1]; decide) (by rw [c1]; decide) (by rw [c1]; rfl) (by decide) ?_
    refine lv_iload_n hx hb dX3_ends_44 rfl (lv_at hl 2 rfl) ?_
    refine lv_bipush (v := (49 : Int32)) hx hb dX3_ends_45 (by decide) ?_
    refine lv_icmp_lt (tgt := 75) hx hb dX3_ends_47 (by decide) (fun c2 => ?_) (fun c2 => ?_)
    · replace h := ite_t c2 h
      refine lv_iconst (v := (0 : Int32)) hx hb dX3_ends_75 (by decide) ?_
      exact rt (0 : Int32) (si σ 43 (-1 : Int32)) 76 _ _ _ dX3_ends_76 h hz (Or.inl rfl)
    · replace h := ite_f c2 h
      refine lv_iload_n hx hb dX3_ends_50 rfl (lv_at hl 2 rfl) ?_
      refine lv_bipush (v := (57 : Int32)) hx hb dX3_ends_51 (by decide) ?_
      refine lv_icmp_gt (tgt := 75) hx hb dX3_ends_53 (by decide) (fun c3 => ?_) (fun c3 => ?_)
      · replace h := ite_t c3 h
        refine lv_iconst (v := (0 : Int32)) hx hb dX3_ends_75 (by decide) ?_
        exact rt (0 : Int32) (si σ 43 (-1 : Int32)) 76 _ _ _ dX3_ends_76 h hz (Or.inl rfl)
      · replace h := ite_f c3 h
        refine lv_aload_n hx hb dX3_ends_56 rfl (lv_at hl 1 rfl) ?_
        refine va_get (v := .ref (a 4)) hx hb hts inX3_ends_X3 hown hKK.1 hz.1 3 rfl rfl 0 (by decide) (hts _ (List.mem_of_getElem? (i := 2) rfl)) (fun _ h9 => h9) rfl dX3_ends_57 ?_
        refine lv_iconst (v := (0 : Int32)) hx hb dX3_ends_60 (by decide) ?_
        refine lv_iload_n hx hb dX3_ends_61 rfl (lv_at hl 2 rfl) ?_
        refine lv_bipush (v := (48 : Int32)) hx hb dX3_ends_62 (by decide) ?_
        refine lv_isub hx hb dX3_ends_64 ?_
        obtain ⟨r4, s5, e6, h⟩ := bd2_e h
        refine zcallVi (As := [.int (0 : Int32), .int (x1 - (48 : Int32))]) (rest := []) CF hKK (KX0_add_r (dC := dC) (dI := dI) (cI := cI) (cZ := cZ) (a := a) hok e6) (cwV 2 hts gX3_ends_X0_add rfl rfl rfl cdX0_add ⟨Nat.le_of_ble_eq_true rfl, Nat.le_of_ble_eq_true rfl⟩) 4 0 rfl rfl hz rfl hl.1 rfl (Nat.le_of_ble_eq_true rfl) dX3_ends_65 ⟨Nat.le_refl _, Nat.le_refl _⟩ (fun H locs hz => ?_)
        refine lv_if_eq (tgt := 75) hx hb dX3_ends_68 (by decide) (fun c7 => ?_) (fun c7 => ?_)
        · replace h := ite_t c7 h
          refine lv_iconst (v := (0 : Int32)) hx hb dX3_ends_75 (by decide) ?_
          exact rt (0 : Int32) s5 76 _ _ _ dX3_ends_76 h hz (Or.inl rfl)
        · replace h := ite_f c7 h
          refine lv_iconst (v := (1 : Int32)) hx hb dX3_ends_71 (by decide) ?_
          refine lv_goto (tgt := 76) hx hb dX3_ends_72 (by decide) ?_
          exact rt (1 : Int32) s5 76 _ _ _ dX3_ends_76 h hz (Or.inr rfl)
  replace h := ite_f c1 h
  by_cases c8 : (σ 43 0) = (1 : Int32)
  · replace h := ite_t c8 h
    refine lv_tableIn (tgt := 77) (off := 66) hx hb dX3_ends_11 (by rw [c8]; decide) (by rw [c8]; decide) (by rw [c8]; rfl) (by decide) ?_
    refine lv_iload_n hx hb dX3_ends_77 rfl (lv_at hl 2 rfl) ?_
    refine lv_bipush (v := (48 : Int32)) hx hb dX3_ends_78 (by decide) ?_
    refine lv_icmp_lt (tgt := 108) hx hb dX3_ends_80 (by decide) (fun c9 => ?_) (fun c9 => ?_)
    · replace h := ite_t c9 h
      refine lv_iconst (v := (0 : Int32)) hx hb dX3_ends_108 (by decide) ?_
      exact rt (0 : Int32) (si σ 43 (-1 : Int32)) 109 _ _ _ dX3_ends_109 h hz (Or.inl rfl)
    · replace h := ite_f c9 h
      refine lv_iload_n hx hb dX3_ends_83 rfl (lv_at hl 2 rfl) ?_
      refine lv_bipush (v := (57 : Int32)) hx hb dX3_ends_84 (by decide) ?_
      refine lv_icmp_gt (tgt := 108) hx hb dX3_ends_86 (by decide) (fun c10 => ?_) (fun c10 => ?_)
      · replace h := ite_t c10 h
        refine lv_iconst (v := (0 : Int32)) hx hb dX3_ends_108 (by decide) ?_
        exact rt (0 : Int32) (si σ 43 (-1 : Int32)) 109 _ _ _ dX3_ends_109 h hz (Or.inl rfl)
      · replace h := ite_f c10 h
        refine lv_aload_n hx hb dX3_ends_89 rfl (lv_at hl 1 rfl) ?_
        refine va_get (v := .ref (a 4)) hx hb hts inX3_ends_X3 hown hKK.1 hz.1 3 rfl rfl 0 (by decide) (hts _ (List.mem_of_getElem? (i := 2) rfl)) (fun _ h9 => h9) rfl dX3_ends_90 ?_
        refine lv_iconst (v := (1 : Int32)) hx hb dX3_ends_93 (by decide) ?_
        refine lv_iload_n hx hb dX3_ends_94 rfl (lv_at hl 2 rfl) ?_
        refine lv_bipush (v := (48 : Int32)) hx hb dX3_ends_95 (by decide) ?_
        refine lv_isub hx hb dX3_ends_97 ?_
        obtain ⟨r11, s12, e13, h⟩ := bd2_e h
        refine zcallVi (As := [.int (1 : Int32), .int (x1 - (48 : Int32))]) (rest := []) CF hKK (KX0_add_r (dC := dC) (dI := dI) (cI := cI) (cZ := cZ) (a := a) hok e13) (cwV 2 hts gX3_ends_X0_add rfl rfl rfl cdX0_add ⟨Nat.le_of_ble_eq_true rfl, Nat.le_of_ble_eq_true rfl⟩) 4 0 rfl rfl hz rfl hl.1 rfl (Nat.le_of_ble_eq_true rfl) dX3_ends_98 ⟨Nat.le_refl _, Nat.le_refl _⟩ (fun H locs hz => ?_)
        refine lv_if_eq (tgt := 108) hx hb dX3_ends_101 (by decide) (fun c14 => ?_) (fun c14 => ?_)
        · replace h := ite_t c14 h
          refine lv_iconst (v := (0 : Int32)) hx hb dX3_ends_108 (by decide) ?_
          exact rt (0 : Int32) s12 109 _ _ _ dX3_ends_109 h hz (Or.inl rfl)
        · replace h := ite_f c14 h
          refine lv_iconst (v := (1 : Int32)) hx hb dX3_ends_104 (by decide) ?_
          refine lv_goto (tgt := 109) hx hb dX3_ends_105 (by decide) ?_
          exact rt (1 : Int32) s12 109 _ _ _ dX3_ends_109 h hz (Or.inr rfl)
  replace h := ite_f c8 h
  by_cases c15 : (σ 43 0) = (4 : Int32)
  · replace h := ite_t c15 h
    refine lv_tableIn (tgt := 110) (off := 99) hx hb dX3_ends_11 (by rw [c15]; decide) (by rw [c15]; decide) (by rw [c15]; rfl) (by decide) ?_
    refine lv_iload_n hx hb dX3_ends_110 rfl (lv_at hl 2 rfl) ?_
    refine lv_bipush (v := (49 : Int32)) hx hb dX3_ends_111 (by decide) ?_
    refine lv_icmp_lt (tgt := 143) hx hb dX3_ends_113 (by decide) (fun c16 => ?_) (fun c16 => ?_)
    · replace h := ite_t c16 h
      refine lv_iconst (v := (0 : Int32)) hx hb dX3_ends_143 (by decide) ?_
      exact rt (0 : Int32) (si σ 43 (-1 : Int32)) 144 _ _ _ dX3_ends_144 h hz (Or.inl rfl)
    · replace h := ite_f c16 h
      refine lv_iload_n hx hb dX3_ends_116 rfl (lv_at hl 2 rfl) ?_
      refine lv_bipush (v := (51 : Int32)) hx hb dX3_ends_117 (by decide) ?_
      refine lv_icmp_gt (tgt := 143) hx hb dX3_ends_119 (by decide) (fun c17 => ?_) (fun c17 => ?_)
      · replace h := ite_t c17 h
        refine lv_iconst (v := (0 : Int32)) hx hb dX3_ends_143 (by decide) ?_
        exact rt (0 : Int32) (si σ 43 (-1 : Int32)) 144 _ _ _ dX3_ends_144 h hz (Or.inl rfl)
      · replace h := ite_f c17 h
        refine lv_aload_n hx hb dX3_ends_122 rfl (lv_at hl 1 rfl) ?_
        refine va_get (v := .ref (a 4)) hx hb hts inX3_ends_X3 hown hKK.1 hz.1 3 rfl rfl 0 (by decide) (hts _ (List.mem_of_getElem? (i := 2) rfl)) (fun _ h9 => h9) rfl dX3_ends_123 ?_
        refine lv_iconst (v := (4 : Int32)) hx hb dX3_ends_126 (by decide) ?_
        refine lv_iconst (v := (1 : Int32)) hx hb dX3_ends_127 (by decide) ?_
        refine lv_iload_n hx hb dX3_ends_128 rfl (lv_at hl 2 rfl) ?_
        refine lv_bipush (v := (48 : Int32)) hx hb dX3_ends_129 (by decide) ?_
        refine lv_isub hx hb dX3_ends_131 ?_
        refine lv_ishl hx hb dX3_ends_132 ?_
        obtain ⟨r18, s19, e20, h⟩ := bd2_e h
        refine zcallVi (As := [.int (4 : Int32), .int ((1 : Int32) <<< ((x1 - (48 : Int32)) &&& 31))]) (rest := []) CF hKK (KX0_add_r (dC := dC) (dI := dI) (cI := cI) (cZ := cZ) (a := a) hok e20) (cwV 2 hts gX3_ends_X0_add rfl rfl rfl cdX0_add ⟨Nat.le_of_ble_eq_true rfl, Nat.le_of_ble_eq_true rfl⟩) 4 0 rfl rfl hz rfl hl.1 rfl (Nat.le_of_ble_eq_true rfl) dX3_ends_133 ⟨Nat.le_refl _, Nat.le_refl _⟩ (fun H locs hz => ?_)
        refine lv_if_eq (tgt := 143) hx hb dX3_ends_136 (by decide) (fun c21 => ?_) (fun c21 => ?_)
        · replace h := ite_t c21 h
          refine lv_iconst (v := (0 : Int32)) hx hb dX3_ends_143 (by decide) ?_
          exact rt (0 : Int32) s19 144 _ _ _ dX3_ends_144 h hz (Or.inl rfl)
        · replace h := ite_f c21 h
          refine lv_iconst (v := (1 : Int32)) hx hb dX3_ends_139 (by decide) ?_
          refine lv_goto (tgt := 144) hx hb dX3_ends_140 (by decide) ?_
          exact rt (1 : Int32) s19 144 _ _ _ dX3_ends_144 h hz (Or.inr rfl)
  replace h := ite_f c15 h
  by_cases c28 : (σ 43 0) = (2 : Int32)
  · refine lv_tableIn (tgt := 145) (off := 134) hx hb dX3_ends_11 (by rw [c28]; decide) (by rw [c28]; decide) (by rw [c28]; rfl) (by decide) ?_
    exact b145  (si σ 43 (-1 : Int32)) x1 (σ 43 0) _ _ _ h hz (lv_sub hl [1, 2, 0] rfl)
  by_cases c29 : (σ 43 0) = (3 : Int32)
  · refine lv_tableIn (tgt := 145) (off := 134) hx hb dX3_ends_11 (by rw [c29]; decide) (by rw [c29]; decide) (by rw [c29]; rfl) (by decide) ?_
    exact b145  (si σ 43 (-1 : Int32)) x1 (σ 43 0) _ _ _ h hz (lv_sub hl [1, 2, 0] rfl)
  refine lv_tableOut (tgt := 145) hx hb dX3_ends_11 (by have := lv_neT c1 (a := 0) rfl; have := lv_neT c8 (a := 1) rfl; have := lv_neT c15 (a := 4) rfl; have := lv_neT c28 (a := 2) rfl; have := lv_neT c29 (a := 3) rfl; omega) (by decide) ?_
  exact b145  (si σ 43 (-1 : Int32)) x1 (σ 43 0) _ _ _ h hz (lv_sub hl [1, 2, 0] rfl)
def fX3_read_b59 (k24 : St → Int32 → Option (Int32 × St)) (σ : St) (y2 : Int32) (t0 : Int32) : Option (Int32 × St) :=
  (if t0 = 0 then (some (y2, σ)) else (k24 σ (y2 + (1 : Int32))))
def fX3_read_s24 (k24 : St → Int32 → Option (Int32 × St)) (σ : St) (y2 : Int32) : Option (Int32 × St) :=
  (bd1 (fX1_length σ ) fun r4 => (if r4 ≤ y2 then ((bd1 (fX1_length σ ) fun r8 => some (r8, σ))) else ((bd1 (fX1_letterAt σ y2) fun r11 => (if (σ 43 0) = (-1 : Int32) then ((bd2 (fX3_begins σ r11) fun r19 s20 => fX3_read_b59 k24 s20 y2 r19)) else ((bd2 (fX3_ends σ r11) fun r15 s16 => fX3_read_b59 k24 s16 y2 r15)))))))
def fX3_read_l24  : Nat → St → Int32 → Option (Int32 × St) :=
  itr (fX3_read_s24 ) (fun _ _ => none)
def fX3_read (σ : St)  : Option (Int32 × St) :=
  (bd1 (fX0_clear_r σ ) fun s2 => fX3_read_l24  FU (si (si (si s2 43 (-1 : Int32)) 44 (0 : Int32)) 45 (0 : Int32)) (0 : Int32))
abbrev rmX3_read : Room := { frames := 3, cells := 0, slots := 0, locals := 67 }
set_option maxHeartbeats 4000000 in
set_option maxRecDepth 100000 in
theorem KX3_read {l : Launch} {dC : Nat → ClassId} {dI : Nat → Nat → Nat} {cI cZ : ClassId} {a : Nat → Nat} {σ : St}  {r : Int32} {σ2 : St} (hok : okA 30 a) (h : fX3_read σ  = some (r, σ2)) (sz : Nat) : Met l yX3_read wsX3_read rmX3_read (Pz (dC, dI) cI cZ (wdC cI cZ a σ) sz [.ref (a 3), .ref (a 1)]) (Qzi (dC, dI) 30 a (wdC cI cZ a σ2) sz r) 0 0 (aN 30 a sz) := by
  refine Met.ofW (cc := cX3_read) (maxL := 5) (ret := (some .int)) (by decide) rfl ?_
  intro p e s m args below meth c s₁ B hml hv
  obtain ⟨hav, hsz, hP, hKK⟩ := hv
  have hx := B.exec
  have hb := B.bytes
  have hr := B.returns
  have hts := atoms_spec (ws := wsX3_read) B.pre
  have hown : s.vm.findClass RX3 = some m.cls := findClass_of_methodNamed B.named
  have hlocks := B.notSynchronized
  have CF : CallFix p m c cX3_read 5 s args wsX3_read RX3 := ⟨hx, hb, hml, hown, hts⟩
  have hz : zz (dC, dI) 30 a (wdC cI cZ a σ) s.heap s.heap [] := ⟨hP, va_S.rf⟩
  have hl := lv_entry [.ref (a 3), .ref (a 1)] (n := 5) (Nat.le_of_ble_eq_true rfl)
  have hen : entryFrame m args 5 = entryFrame m ([.ref (a 3), .ref (a 1)] : List Value).toArray 5 := by rw [hav]
  rw [hen, lg_entry_eq]
  generalize (lg_sl [.ref (a 3), .ref (a 1)] ++ List.replicate (5 - (lg_sl [.ref (a 3), .ref (a 1)]).length) Slot.unset).toArray = ls at hl ⊢
  have hl : lv_has ls 5 [(0, .ref (a 3)), (1, .ref (a 1))] := hl
  have eR : (headSpec wsX3_read rmX3_read).room = rmX3_read := rfl
  rw [eR]
  have rt : ∀ (v : Int32) (t : St) (pc : Nat) (H : Heap) (locs : List Loc) (ls : Array Slot), decode cX3_read pc = .ok (.ireturn, 1) → some (v, t) = some (r, σ2) → zz (dC, dI) 30 a (wdC cI cZ a t) s.heap H locs → W p l e rmX3_read s m args below meth c H locs 0 0 (MQ below (Qzi (dC, dI) 30 a (wdC cI cZ a σ2) sz r) args s 0 0 (aN 30 a sz)) (F0 m pc ls [.int v]) := by
    intro v t pc H locs ls hd h hz
    cases h
    exact ziret hsz hx hb hr hlocks hz hd
  generalize (MQ below (Qzi (dC, dI) 30 a (wdC cI cZ a σ2) sz r) args s 0 0 (aN 30 a sz)) = Q at rt ⊢
  have b59 : ∀ (k24 : St → Int32 → Option (Int32 × St)) (hk24 : (∀ (σ : St) (y2 : Int32) (H : Heap) (locs : List Loc) (ls : Array Slot), k24 σ y2 = some (r, σ2) → zz (dC, dI) 30 a (wdC cI cZ a σ) s.heap H locs → lv_has ls 5 [(0, .ref (a 3)), (1, .ref (a 1)), (2, .int y2)] → W p l e rmX3_read s m args below meth c H locs 0 0 Q (F0 m 24 ls []))) (σ : St) (y2 : Int32) (t0 : Int32) (H : Heap) (locs : List Loc) (ls : Array Slot), fX3_read_b59 k24 σ y2 t0 = some (r, σ2) → zz (dC, dI) 30 a (wdC cI cZ a σ) s.heap H locs → lv_has ls 5 [(0, .ref (a 3)), (1, .ref (a 1)), (2, .int y2)] → W p l e rmX3_read s m args below meth c H locs 0 0 Q (F0 m 59 ls [.int t0]) := by
    intro k24 hk24 σ y2 t0 H locs ls h hz hl
    unfold fX3_read_b59 at h
    refine lv_istore (lv' := [(4, .int t0), (0, .ref (a 3)), (1, .ref (a 1)), (2, .int y2)]) hx hb dX3_read_59 hl (by decide) rfl (fun ls hl => ?_)
    refine lv_iload hx hb dX3_read_61 (lv_at hl 0 rfl) ?_
    refine lv_if_ne (tgt := 68) hx hb dX3_read_63 (by decide) (fun c18 => ?_) (fun c18 => ?_)
    · replace h := ite_f c18 h
      refine lv_iinc (v := (y2 + (1 : Int32))) (lv' := [(2, .int (y2 + (1 : Int32))), (4, .int t0), (0, .ref (a 3)), (1, .ref (a 1))]) hx hb dX3_read_68 hl (k := 3) rfl rfl (by decide) rfl (fun ls hl => ?_)
      refine lv_goto (tgt := 24) hx hb dX3_read_71 (by decide) ?_
      exact hk24 σ (y2 + (1 : Int32)) _ _ _ h hz (lv_sub hl [2, 3, 0] rfl)
    · replace h := ite_t c18 h
      refine lv_iload_n hx hb dX3_read_66 rfl (lv_at hl 3 rfl) ?_
      exact rt y2 σ 67 _ _ _ dX3_read_67 h hz
  have s24 : ∀ (k24 : St → Int32 → Option (Int32 × St)) (hk24 : (∀ (σ : St) (y2 : Int32) (H : Heap) (locs : List Loc) (ls : Array Slot), k24 σ y2 = some (r, σ2) → zz (dC, dI) 30 a (wdC cI cZ a σ) s.heap H locs → lv_has ls 5 [(0, .ref (a 3)), (1, .ref (a 1)), (2, .int y2)] → W p l e rmX3_read s m args below meth c H locs 0 0 Q (F0 m 24 ls []))) (σ : St) (y2 : Int32) (H : Heap) (locs : List Loc) (ls : Array Slot), fX3_read_s24 k24 σ y2 = some (r, σ2) → zz (dC, dI) 30 a (wdC cI cZ a σ) s.heap H locs → lv_has ls 5 [(0, .ref (a 3)), (1, .ref (a 1)), (2, .int y2)] → W p l e rmX3_read s m args below meth c H locs 0 0 Q (F0 m 24 ls []) := by
    intro k24 hk24 σ y2 H locs ls h hz hl
    unfold fX3_read_s24 at h
    refine lv_iload_n hx hb dX3_read_24 rfl (lv_at hl 2 rfl) ?_
    refine lv_aload_n hx hb dX3_read_25 rfl (lv_at hl 1 rfl) ?_
    obtain ⟨r4, e6, h⟩ := bd1_e h
    refine zcallVi (As := []) (rest := [.int y2]) CF hKK (KX1_length (dC := dC) (dI := dI) (cI := cI) (cZ := cZ) (a := a) hok e6) (cwV 0 hts gX3_read_X1_length rfl rfl rfl cdX1_length ⟨Nat.le_of_ble_eq_true rfl, Nat.le_of_ble_eq_true rfl⟩) 1 1 rfl rfl hz rfl hl.1 rfl (Nat.le_of_ble_eq_true rfl) dX3_read_26 ⟨Nat.le_refl _, Nat.le_refl _⟩ (fun H locs hz => ?_)
    refine lv_icmp_ge (tgt := 74) hx hb dX3_read_29 (by decide) (fun c7 => ?_) (fun c7 => ?_)
    · replace h := ite_t c7 h
      refine lv_aload_n hx hb dX3_read_74 rfl (lv_at hl 1 rfl) ?_
      obtain ⟨r8, e10, h⟩ := bd1_e h
      refine zcallVi (As := []) (rest := []) CF hKK (KX1_length (dC := dC) (dI := dI) (cI := cI) (cZ := cZ) (a := a) hok e10) (cwV 0 hts gX3_read_X1_length rfl rfl rfl cdX1_length ⟨Nat.le_of_ble_eq_true rfl, Nat.le_of_ble_eq_true rfl⟩) 1 1 rfl rfl hz rfl hl.1 rfl (Nat.le_of_ble_eq_true rfl) dX3_read_75 ⟨Nat.le_refl _, Nat.le_refl _⟩ (fun H locs hz => ?_)
      exact rt r8 σ 78 _ _ _ dX3_read_78 h hz
    · replace h := ite_f c7 h
      refine lv_aload_n hx hb dX3_read_32 rfl (lv_at hl 1 rfl) ?_
      refine lv_iload_n hx hb dX3_read_33 rfl (lv_at hl 2 rfl) ?_
      obtain ⟨r11, e13, h⟩ := bd1_e h
      refine zcallVi (As := [.int y2]) (rest := []) CF hKK (KX1_letterAt (dC := dC) (dI := dI) (cI := cI) (cZ := cZ) (a := a) hok e13) (cwV 1 hts gX3_read_X1_letterAt rfl rfl rfl cdX1_letterAt ⟨Nat.le_of_ble_eq_true rfl, Nat.le_of_ble_eq_true rfl⟩) 1 1 rfl rfl hz rfl hl.1 rfl (Nat.le_of_ble_eq_true rfl) dX3_read_34 ⟨Nat.le_refl _, Nat.le_refl _⟩ (fun H locs hz => ?_)
      refine lv_istore_n (lv' := [(3, .int r11), (0, .ref (a 3)), (1, .ref (a 1)), (2, .int y2)]) hx hb dX3_read_37 rfl hl (by decide) rfl (fun ls hl => ?_)
      refine lv_aload_n hx hb dX3_read_38 rfl (lv_at hl 1 rfl) ?_
      refine va_get (v := .int (σ 43 0)) hx hb hts inX3_read_X3 hown hKK.1 hz.1 3 rfl rfl 1 (by decide) (hts _ (List.mem_of_getElem? (i := 2) rfl)) (fun _ h9 => h9) rfl dX3_read_39 ?_
      refine lv_iconst (v := (-1 : Int32)) hx hb dX3_read_42 (by decide) ?_
      refine lv_icmp_ne (tgt := 54) hx hb dX3_read_43 (by decide) (fun c14 => ?_) (fun c14 => ?_)
      · replace h := ite_f c14 h
        refine lv_aload_n hx hb dX3_read_54 rfl (lv_at hl 1 rfl) ?_
        refine lv_iload_n hx hb dX3_read_55 rfl (lv_at hl 0 rfl) ?_
        obtain ⟨r15, s16, e17, h⟩ := bd2_e h
        refine zcallVi (As := [.int r11]) (rest := []) CF hKK (KX3_ends (dC := dC) (dI := dI) (cI := cI) (cZ := cZ) (a := a) hok e17) (cwV 1 hts gX3_read_X3_ends rfl rfl rfl cdX3_ends ⟨Nat.le_of_ble_eq_true rfl, Nat.le_of_ble_eq_true rfl⟩) 3 3 rfl rfl hz rfl hl.1 rfl (Nat.le_of_ble_eq_true rfl) dX3_read_56 ⟨Nat.le_refl _, Nat.le_refl _⟩ (fun H locs hz => ?_)
        exact b59 k24 hk24 s16 y2 r15 _ _ _ h hz (lv_sub hl [1, 2, 3] rfl)
      · replace h := ite_t c14 h
        refine lv_aload_n hx hb dX3_read_46 rfl (lv_at hl 1 rfl) ?_
        refine lv_iload_n hx hb dX3_read_47 rfl (lv_at hl 0 rfl) ?_
        obtain ⟨r19, s20, e21, h⟩ := bd2_e h
        refine zcallVi (As := [.int r11]) (rest := []) CF hKK (KX3_begins (dC := dC) (dI := dI) (cI := cI) (cZ := cZ) (a := a) hok e21) (cwV 1 hts gX3_read_X3_begins rfl rfl rfl cdX3_begins ⟨Nat.le_of_ble_eq_true rfl, Nat.le_of_ble_eq_true rfl⟩) 3 3 rfl rfl hz rfl hl.1 rfl (Nat.le_of_ble_eq_true rfl) dX3_read_48 ⟨Nat.le_refl _, Nat.le_refl _⟩ (fun H locs hz => ?_)
        refine lv_goto (tgt := 59) hx hb dX3_read_51 (by decide) ?_
        exact b59 k24 hk24 s20 y2 r19 _ _ _ h hz (lv_sub hl [1, 2, 3] rfl)
  have l24 : ∀  (n : Nat), ∀ (σ : St) (y2 : Int32) (H : Heap) (locs : List Loc) (ls : Array Slot), fX3_read_l24  n σ y2 = some (r, σ2) → zz (dC, dI) 30 a (wdC cI cZ a σ) s.heap H locs → lv_has ls 5 [(0, .ref (a 3)), (1, .ref (a 1)), (2, .int y2)] → W p l e rmX3_read s m args below meth c H locs 0 0 Q (F0 m 24 ls []) := by
    intro  n
    induction n with
    | zero => intro σ y2 H locs ls h; exact nomatch h
    | succ n ih => exact s24  (fX3_read_l24  n) ih
  unfold fX3_read at h
  refine lv_aload_n hx hb dX3_read_0 rfl (lv_at hl 0 rfl) ?_
  refine va_get (v := .ref (a 4)) hx hb hts inX3_read_X3 hown hKK.1 hz.1 3 rfl rfl 0 (by decide) (hts _ (List.mem_of_getElem? (i := 1) rfl)) (fun _ h9 => h9) rfl dX3_read_1 ?_
  obtain ⟨s2, e3, h⟩ := bd1_e h
  refine zcallVv (As := []) (rest := []) CF hKK (KX0_clear_r (dC := dC) (dI := dI) (cI := cI) (cZ := cZ) (a := a) hok e3) (cwV 0 hts gX3_read_X0_clear rfl rfl rfl cdX0_clear ⟨Nat.le_of_ble_eq_true rfl, Nat.le_of_ble_eq_true rfl⟩) 4 0 rfl rfl hz rfl hl.1 rfl (Nat.le_of_ble_eq_true rfl) dX3_read_4 ⟨Nat.le_refl _, Nat.le_refl _⟩ (fun H locs hz => ?_)
  refine lv_aload_n hx hb dX3_read_7 rfl (lv_at hl 0 rfl) ?_
  refine lv_iconst (v := (-1 : Int32)) hx hb dX3_read_8 (by decide) ?_
  refine zput (ty := .int) (w' := wdC cI cZ a (si s2 43 (-1 : Int32))) hx hb hts inX3_read_X3 tyX3 tyX3_ok nmX3 hown hKK hok wkC hz 3 rfl rfl 1 (by decide) (hts _ (List.mem_of_getElem? (i := 2) rfl)) (fun _ h9 => h9) rfl rfl rfl rfl (Nat.le_of_ble_eq_true rfl) setCi_43 dX3_read_9 (fun H locs hz => ?_)
  refine lv_aload_n hx hb dX3_read_12 rfl (lv_at hl 0 rfl) ?_
  refine lv_iconst (v := (0 : Int32)) hx hb dX3_read_13 (by decide) ?_
  refine zput (ty := .int) (w' := wdC cI cZ a (si (si s2 43 (-1 : Int32)) 44 (0 : Int32))) hx hb hts inX3_read_X3 tyX3 tyX3_ok nmX3 hown hKK hok wkC hz 3 rfl rfl 2 (by decide) (hts _ (List.mem_of_getElem? (i := 3) rfl)) (fun _ h9 => h9) rfl rfl rfl rfl (Nat.le_of_ble_eq_true rfl) setCi_44 dX3_read_14 (fun H locs hz => ?_)
  refine lv_aload_n hx hb dX3_read_17 rfl (lv_at hl 0 rfl) ?_
  refine lv_iconst (v := (0 : Int32)) hx hb dX3_read_18 (by decide) ?_
  refine zput (ty := .int) (w' := wdC cI cZ a (si (si (si s2 43 (-1 : Int32)) 44 (0 : Int32)) 45 (0 : Int32))) hx hb hts inX3_read_X3 tyX3 tyX3_ok nmX3 hown hKK hok wkC hz 3 rfl rfl 3 (by decide) (hts _ (List.mem_of_getElem? (i := 4) rfl)) (fun _ h9 => h9) rfl rfl rfl rfl (Nat.le_of_ble_eq_true rfl) setCi_45 dX3_read_19 (fun H locs hz => ?_)
  refine lv_iconst (v := (0 : Int32)) hx hb dX3_read_22 (by decide) ?_
  refine lv_istore_n (lv' := [(2, .int (0 : Int32)), (0, .ref (a 3)), (1, .ref (a 1))]) hx hb dX3_read_23 rfl hl (by decide) rfl (fun ls hl => ?_)
  exact l24  FU (si (si (si s2 43 (-1 : Int32)) 44 (0 : Int32)) 45 (0 : Int32)) (0 : Int32) _ _ _ h hz (lv_sub hl [1, 2, 0] rfl)
