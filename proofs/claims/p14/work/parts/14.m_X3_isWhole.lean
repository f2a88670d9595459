def fX3_isWhole (σ : St)  : Option (Int32) :=
  (bd1 (fX0_size_r σ ) fun r1 => (if r1 ≤ 0 then (some (0 : Int32)) else ((if (σ 43 0) = (-1 : Int32) then ((if ((σ 45 0) &&& ((σ 44 0) ^^^ (-1 : Int32))) = 0 then (some (1 : Int32)) else (some (0 : Int32)))) else (some (0 : Int32))))))
abbrev rmX3_isWhole : Room := { frames := 1, cells := 0, slots := 0, locals := 20 }
set_option maxHeartbeats 4000000 in
set_option maxRecDepth 100000 in
theorem KX3_isWhole {l : Launch} {dC : Nat → ClassId} {dI : Nat → Nat → Nat} {cI cZ : ClassId} {a : Nat → Nat} {σ : St}  {r : Int32} (hok : okA 30 a) (h : fX3_isWhole σ  = some r) (sz : Nat) : Met l yX3_isWhole wsX3_isWhole rmX3_isWhole (Pz (dC, dI) cI cZ (wdC cI cZ a σ) sz [.ref (a 3)]) (Qzi (dC, dI) 30 a (wdC cI cZ a σ) sz r) 0 0 (aN 30 a sz) := by
  refine Met.ofW (cc := cX3_isWhole) (maxL := 1) (ret := (some .boolean)) (by decide) rfl ?_
  intro p e s m args below meth c s₁ B hml hv
  obtain ⟨hav, hsz, hP, hKK⟩ := hv
  have hx := B.exec
  have hb := B.bytes
  have hr := B.returns
  have hts := atoms_spec (ws := wsX3_isWhole) B.pre
  have hown : s.vm.findClass RX3 = some m.cls := findClass_of_methodNamed B.named
  have hlocks := B.notSynchronized
  have CF : CallFix p m c cX3_isWhole 1 s args wsX3_isWhole RX3 := ⟨hx, hb, hml, hown, hts⟩
  have hz : zz (dC, dI) 30 a (wdC cI cZ a σ) s.heap s.heap [] := ⟨hP, va_S.rf⟩
  have hl := lv_entry [.ref (a 3)] (n := 1) (Nat.le_of_ble_eq_true rfl)
  have hen : entryFrame m args 1 = entryFrame m ([.ref (a 3)] : List Value).toArray 1 := by rw [hav]
  rw [hen, lg_entry_eq]
  generalize (lg_sl [.ref (a 3)] ++ List.replicate (1 - (lg_sl [.ref (a 3)]).length) Slot.unset).toArray = ls at hl ⊢
  have hl : lv_has ls 1 [(0, .ref (a 3))] := hl
  have eR : (headSpec wsX3_isWhole rmX3_isWhole).room = rmX3_isWhole := rfl
  rw [eR]
  have rt : ∀ (v : Int32) (t : St) (pc : Nat) (H : Heap) (locs : List Loc) (ls : Array Slot), decode cX3_isWhole pc = .ok (.ireturn, 1) → some v = some r → zz (dC, dI) 30 a (wdC cI cZ a σ) s.heap H locs → (v = 0 ∨ v = 1) → W p l e rmX3_isWhole s m args below meth c H locs 0 0 (MQ below (Qzi (dC, dI) 30 a (wdC cI cZ a σ) sz r) args s 0 0 (aN 30 a sz)) (F0 m pc ls [.int v]) := by
    intro v t pc H locs ls hd h hz hv
    cases h
    exact zzret hsz hx hb hr hlocks hv hz hd
  generalize (MQ below (Qzi (dC, dI) 30 a (wdC cI cZ a σ) sz r) args s 0 0 (aN 30 a sz)) = Q at rt ⊢
  unfold fX3_isWhole at h
  refine lv_aload_n hx hb dX3_isWhole_0 rfl (lv_at hl 0 rfl) ?_
  refine va_get (v := .ref (a 4)) hx hb hts inX3_isWhole_X3 hown hKK.1 hz.1 3 rfl rfl 0 (by decide) (hts _ (List.mem_of_getElem? (i := 1) rfl)) (fun _ h9 => h9) rfl dX3_isWhole_1 ?_
  obtain ⟨r1, e3, h⟩ := bd1_e h
  refine zcallVi (As := []) (rest := []) CF hKK (KX0_size_r (dC := dC) (dI := dI) (cI := cI) (cZ := cZ) (a := a) hok e3) (cwV 0 hts gX3_isWhole_X0_size rfl rfl rfl cdX0_size ⟨Nat.le_of_ble_eq_true rfl, Nat.le_of_ble_eq_true rfl⟩) 4 0 rfl rfl hz rfl hl.1 rfl (Nat.le_of_ble_eq_true rfl) dX3_isWhole_4 ⟨Nat.le_refl _, Nat.le_refl _⟩ (fun H locs hz => ?_)
  refine lv_if_le (tgt := 36) hx hb dX3_isWhole_7 (by decide) (fun c4 => ?_) (fun c4 => ?_)
  · replace h := ite_t c4 h
    refine lv_iconst (v := (0 : Int32)) hx hb dX3_isWhole_36 (by decide) ?_
    exact rt (0 : Int32) σ 37 _ _ _ dX3_isWhole_37 h hz (Or.inl rfl)
  · replace h := ite_f c4 h
    refine lv_aload_n hx hb dX3_isWhole_10 rfl (lv_at hl 0 rfl) ?_
    refine va_get (v := .int (σ 43 0)) hx hb hts inX3_isWhole_X3 hown hKK.1 hz.1 3 rfl rfl 1 (by decide) (hts _ (List.mem_of_getElem? (i := 2) rfl)) (fun _ h9 => h9) rfl dX3_isWhole_11 ?_
    refine lv_iconst (v := (-1 : Int32)) hx hb dX3_isWhole_14 (by decide) ?_
    refine lv_icmp_ne (tgt := 36) hx hb dX3_isWhole_15 (by decide) (fun c5 => ?_) (fun c5 => ?_)
    · replace h := ite_f c5 h
      refine lv_iconst (v := (0 : Int32)) hx hb dX3_isWhole_36 (by decide) ?_
      exact rt (0 : Int32) σ 37 _ _ _ dX3_isWhole_37 h hz (Or.inl rfl)
    · replace h := ite_t c5 h
      refine lv_aload_n hx hb dX3_isWhole_18 rfl (lv_at hl 0 rfl) ?_
      refine va_get (v := .int (σ 45 0)) hx hb hts inX3_isWhole_X3 hown hKK.1 hz.1 3 rfl rfl 3 (by decide) (hts _ (List.mem_of_getElem? (i := 3) rfl)) (fun _ h9 => h9) rfl dX3_isWhole_19 ?_
      refine lv_aload_n hx hb dX3_isWhole_22 rfl (lv_at hl 0 rfl) ?_
      refine va_get (v := .int (σ 44 0)) hx hb hts inX3_isWhole_X3 hown hKK.1 hz.1 3 rfl rfl 2 (by decide) (hts _ (List.mem_of_getElem? (i := 4) rfl)) (fun _ h9 => h9) rfl dX3_isWhole_23 ?_
      refine lv_iconst (v := (-1 : Int32)) hx hb dX3_isWhole_26 (by decide) ?_
      refine lv_ixor hx hb dX3_isWhole_27 ?_
      refine lv_iand hx hb dX3_isWhole_28 ?_
      refine lv_if_ne (tgt := 36) hx hb dX3_isWhole_29 (by decide) (fun c6 => ?_) (fun c6 => ?_)
      · replace h := ite_f c6 h
        refine lv_iconst (v := (0 : Int32)) hx hb dX3_isWhole_36 (by decide) ?_
        exact rt (0 : Int32) σ 37 _ _ _ dX3_isWhole_37 h hz (Or.inl rfl)
      · replace h := ite_t c6 h
        refine lv_iconst (v := (1 : Int32)) hx hb dX3_isWhole_32 (by decide) ?_
        refine lv_goto (tgt := 37) hx hb dX3_isWhole_33 (by decide) ?_
        exact rt (1 : Int32) σ 37 _ _ _ dX3_isWhole_37 h hz (Or.inr rfl)
def fX4_returnOf_i (σ : St) (x1 : Int32) : Option (Int32) :=
  (bd1 (fX4_has_i σ x1) fun r1 => (if r1 = 0 then (some (-1 : Int32)) else ((ck (¬ (x1 < 0 ∨ 12 ≤ Int32.toNatClampNeg x1)) <| some ((σ 14) (Int32.toNatClampNeg x1))))))
abbrev rmX4_returnOf_i : Room := { frames := 1, cells := 0, slots := 0, locals := 21 }
set_option maxHeartbeats 4000000 in
set_option maxRecDepth 100000 in
theorem KX4_returnOf_i {l : Launch} {dC : Nat → ClassId} {dI : Nat → Nat → Nat} {cI cZ : ClassId} {a : Nat → Nat} {σ : St} {x1 : Int32} {r : Int32} (hok : okA 30 a) (h : fX4_returnOf_i σ x1 = some r) (sz : Nat) : Met l yX4_returnOf wsX4_returnOf rmX4_returnOf_i (Pz (dC, dI) cI cZ (wdC cI cZ a σ) sz [.ref (a 12), .int x1]) (Qzi (dC, dI) 30 a (wdC cI cZ a σ) sz r) 0 0 (aN 30 a sz) := by
  refine Met.ofW (cc := cX4_returnOf) (maxL := 2) (ret := (some .int)) (by decide) rfl ?_
  intro p e s m args below meth c s₁ B hml hv
  obtain ⟨hav, hsz, hP, hKK⟩ := hv
  have hx := B.exec
  have hb := B.bytes
  have hr := B.returns
  have hts := atoms_spec (ws := wsX4_returnOf) B.pre
  have hown : s.vm.findClass RX4 = some m.cls := findClass_of_methodNamed B.named
  have hlocks := B.notSynchronized
  have CF : CallFix p m c cX4_returnOf 2 s args wsX4_returnOf RX4 := ⟨hx, hb, hml, hown, hts⟩
  have hz : zz (dC, dI) 30 a (wdC cI cZ a σ) s.heap s.heap [] := ⟨hP, va_S.rf⟩
  have hl := lv_entry [.ref (a 12), .int x1] (n := 2) (Nat.le_of_ble_eq_true rfl)
  have hen : entryFrame m args 2 = entryFrame m ([.ref (a 12), .int x1] : List Value).toArray 2 := by rw [hav]
  rw [hen, lg_entry_eq]
  generalize (lg_sl [.ref (a 12), .int x1] ++ List.replicate (2 - (lg_sl [.ref (a 12), .int x1]).length) Slot.unset).toArray = ls at hl ⊢
  have hl : lv_has ls 2 [(0, .ref (a 12)), (1, .int x1)] := hl
  have eR : (headSpec wsX4_returnOf rmX4_returnOf_i).room = rmX4_returnOf_i := rfl
  rw [eR]
  have rt : ∀ (v : Int32) (t : St) (pc : Nat) (H : Heap) (locs : List Loc) (ls : Array Slot), decode cX4_returnOf pc = .ok (.ireturn, 1) → some v = some r → zz (dC, dI) 30 a (wdC cI cZ a σ) s.heap H locs → W p l e rmX4_returnOf_i s m args below meth c H locs 0 0 (MQ below (Qzi (dC, dI) 30 a (wdC cI cZ a σ) sz r) args s 0 0 (aN 30 a sz)) (F0 m pc ls [.int v]) := by
    intro v t pc H locs ls hd h hz
    cases h
    exact ziret hsz hx hb hr hlocks hz hd
  generalize (MQ below (Qzi (dC, dI) 30 a (wdC cI cZ a σ) sz r) args s 0 0 (aN 30 a sz)) = Q at rt ⊢
  unfold fX4_returnOf_i at h
  refine lv_aload_n hx hb dX4_returnOf_0 rfl (lv_at hl 0 rfl) ?_
  refine lv_iload_n hx hb dX4_returnOf_1 rfl (lv_at hl 1 rfl) ?_
  obtain ⟨r1, e3, h⟩ := bd1_e h
  refine zcallVi (As := [.int x1]) (rest := []) CF hKK (KX4_has_i (dC := dC) (dI := dI) (cI := cI) (cZ := cZ) (a := a) hok e3) (cwV 1 hts gX4_returnOf_X4_has rfl rfl rfl cdX4_has ⟨Nat.le_of_ble_eq_true rfl, Nat.le_of_ble_eq_true rfl⟩) 12 4 rfl rfl hz rfl hl.1 rfl (Nat.le_of_ble_eq_true rfl) dX4_returnOf_2 ⟨Nat.le_refl _, Nat.le_refl _⟩ (fun H locs hz => ?_)
  refine lv_if_eq (tgt := 17) hx hb dX4_returnOf_5 (by decide) (fun c4 => ?_) (fun c4 => ?_)
  · replace h := ite_t c4 h
    refine lv_iconst (v := (-1 : Int32)) hx hb dX4_returnOf_17 (by decide) ?_
    exact rt (-1 : Int32) σ 18 _ _ _ dX4_returnOf_18 h hz
  · replace h := ite_f c4 h
    refine lv_aload_n hx hb dX4_returnOf_8 rfl (lv_at hl 0 rfl) ?_
    refine va_get (v := .ref (a 14)) hx hb hts inX4_returnOf_X4 hown hKK.1 hz.1 12 rfl rfl 1 (by decide) (hts _ (List.mem_of_getElem? (i := 1) rfl)) (fun _ h9 => h9) rfl dX4_returnOf_9 ?_
    refine lv_iload_n hx hb dX4_returnOf_12 rfl (lv_at hl 1 rfl) ?_
    obtain ⟨c5, h⟩ := ck_e h
    refine va_iald (f := (σ 14)) hx hb hKK.1 hz.1 14 0 rfl rfl c5 dX4_returnOf_13 ?_
    refine lv_goto (tgt := 18) hx hb dX4_returnOf_14 (by decide) ?_
    exact rt ((σ 14) (Int32.toNatClampNeg x1)) σ 18 _ _ _ dX4_returnOf_18 h hz
def fX4_returnOf_c (σ : St) (x1 : Int32) : Option (Int32) :=
  (bd1 (fX4_has_c σ x1) fun r1 => (if r1 = 0 then (some (-1 : Int32)) else ((ck (¬ (x1 < 0 ∨ 16 ≤ Int32.toNatClampNeg x1)) <| some ((σ 20) (Int32.toNatClampNeg x1))))))
abbrev rmX4_returnOf_c : Room := { frames := 1, cells := 0, slots := 0, locals := 21 }
set_option maxHeartbeats 4000000 in
set_option maxRecDepth 100000 in
theorem KX4_returnOf_c {l : Launch} {dC : Nat → ClassId} {dI : Nat → Nat → Nat} {cI cZ : ClassId} {a : Nat → Nat} {σ : St} {x1 : Int32} {r : Int32} (hok : okA 30 a) (h : fX4_returnOf_c σ x1 = some r) (sz : Nat) : Met l yX4_returnOf wsX4_returnOf rmX4_returnOf_c (Pz (dC, dI) cI cZ (wdC cI cZ a σ) sz [.ref (a 18), .int x1]) (Qzi (dC, dI) 30 a (wdC cI cZ a σ) sz r) 0 0 (aN 30 a sz) := by
  refine Met.ofW (cc := cX4_returnOf) (maxL := 2) (ret := (some .int)) (by decide) rfl ?_
  intro p e s m args below meth c s₁ B hml hv
  obtain ⟨hav, hsz, hP, hKK⟩ := hv
  have hx := B.exec
  have hb := B.bytes
  have hr := B.returns
  have hts := atoms_spec (ws := wsX4_returnOf) B.pre
  have hown : s.vm.findClass RX4 = some m.cls := findClass_of_methodNamed B.named
  have hlocks := B.notSynchronized
  have CF : CallFix p m c cX4_returnOf 2 s args wsX4_returnOf RX4 := ⟨hx, hb, hml, hown, hts⟩
  have hz : zz (dC, dI) 30 a (wdC cI cZ a σ) s.heap s.heap [] := ⟨hP, va_S.rf⟩
  have hl := lv_entry [.ref (a 18), .int x1] (n := 2) (Nat.le_of_ble_eq_true rfl)
  have hen : entryFrame m args 2 = entryFrame m ([.ref (a 18), .int x1] : List Value).toArray 2 := by rw [hav]
  rw [hen, lg_entry_eq]
  generalize (lg_sl [.ref (a 18), .int x1] ++ List.replicate (2 - (lg_sl [.ref (a 18), .int x1]).length) Slot.unset).toArray = ls at hl ⊢
  have hl : lv_has ls 2 [(0, .ref (a 18)), (1, .int x1)] := hl
  have eR : (headSpec wsX4_returnOf rmX4_returnOf_c).room = rmX4_returnOf_c := rfl
  rw [eR]
  have rt : ∀ (v : Int32) (t : St) (pc : Nat) (H : Heap) (locs : List Loc) (ls : Array Slot), decode cX4_returnOf pc = .ok (.ireturn, 1) → some v = some r → zz (dC, dI) 30 a (wdC cI cZ a σ) s.heap H locs → W p l e rmX4_returnOf_c s m args below meth c H locs 0 0 (MQ below (Qzi (dC, dI) 30 a (wdC cI cZ a σ) sz r) args s 0 0 (aN 30 a sz)) (F0 m pc ls [.int v]) := by
    intro v t pc H locs ls hd h hz
    cases h
    exact ziret hsz hx hb hr hlocks hz hd
  generalize (MQ below (Qzi (dC, dI) 30 a (wdC cI cZ a σ) sz r) args s 0 0 (aN 30 a sz)) = Q at rt ⊢
  unfold fX4_returnOf_c at h
  refine lv_aload_n hx hb dX4_returnOf_0 rfl (lv_at hl 0 rfl) ?_
  refine lv_iload_n hx hb dX4_returnOf_1 rfl (lv_at hl 1 rfl) ?_
  obtain ⟨r1, e3, h⟩ := bd1_e h
  refine zcallVi (As := [.int x1]) (rest := []) CF hKK (KX4_has_c (dC := dC) (dI := dI) (cI := cI) (cZ := cZ) (a := a) hok e3) (cwV 1 hts gX4_returnOf_X4_has rfl rfl rfl cdX4_has ⟨Nat.le_of_ble_eq_true rfl, Nat.le_of_ble_eq_true rfl⟩) 18 4 rfl rfl hz rfl hl.1 rfl (Nat.le_of_ble_eq_true rfl) dX4_returnOf_2 ⟨Nat.le_refl _, Nat.le_refl _⟩ (fun H locs hz => ?_)
  refine lv_if_eq (tgt := 17) hx hb dX4_returnOf_5 (by decide) (fun c4 => ?_) (fun c4 => ?_)
  · replace h := ite_t c4 h
    refine lv_iconst (v := (-1 : Int32)) hx hb dX4_returnOf_17 (by decide) ?_
    exact rt (-1 : Int32) σ 18 _ _ _ dX4_returnOf_18 h hz
  · replace h := ite_f c4 h
    refine lv_aload_n hx hb dX4_returnOf_8 rfl (lv_at hl 0 rfl) ?_
    refine va_get (v := .ref (a 20)) hx hb hts inX4_returnOf_X4 hown hKK.1 hz.1 18 rfl rfl 1 (by decide) (hts _ (List.mem_of_getElem? (i := 1) rfl)) (fun _ h9 => h9) rfl dX4_returnOf_9 ?_
    refine lv_iload_n hx hb dX4_returnOf_12 rfl (lv_at hl 1 rfl) ?_
    obtain ⟨c5, h⟩ := ck_e h
    refine va_iald (f := (σ 20)) hx hb hKK.1 hz.1 20 0 rfl rfl c5 dX4_returnOf_13 ?_
    refine lv_goto (tgt := 18) hx hb dX4_returnOf_14 (by decide) ?_
    exact rt ((σ 20) (Int32.toNatClampNeg x1)) σ 18 _ _ _ dX4_returnOf_18 h hz
def fX5_letter (σ : St) (x1 : Int32) : Option (Int32 × St) :=
  (if x1 < (32 : Int32) then (some ((-1002 : Int32), σ)) else ((if x1 ≤ (126 : Int32) then ((bd2 (fX1_append σ x1) fun r3 s4 => (if r3 = 0 then (some ((-1004 : Int32), s4)) else ((bd1 (fX1_length s4 ) fun r7 => some (r7, s4)))))) else (some ((-1002 : Int32), σ)))))
abbrev rmX5_letter : Room := { frames := 1, cells := 0, slots := 0, locals := 21 }
set_option maxHeartbeats 4000000 in
set_option maxRecDepth 100000 in
theorem KX5_letter {l : Launch} {dC : Nat → ClassId} {dI : Nat → Nat → Nat} {cI cZ : ClassId} {a : Nat → Nat} {σ : St} {x1 : Int32} {r : Int32} {σ2 : St} (hok : okA 30 a) (h : fX5_letter σ x1 = some (r, σ2)) (sz : Nat) : Met l yX5_letter wsX5_letter rmX5_letter (Pz (dC, dI) cI cZ (wdC cI cZ a σ) sz [.ref (a 0), .int x1]) (Qzi (dC, dI) 30 a (wdC cI cZ a σ2) sz r) 0 0 (aN 30 a sz) := by
  refine Met.ofW (cc := cX5_letter) (maxL := 2) (ret := (some .int)) (by decide) rfl ?_
  intro p e s m args below meth c s₁ B hml hv
  obtain ⟨hav, hsz, hP, hKK⟩ := hv
  have hx := B.exec
  have hb := B.bytes
  have hr := B.returns
  have hts := atoms_spec (ws := wsX5_letter) B.pre
  have hown : s.vm.findClass RX5 = some m.cls := findClass_of_methodNamed B.named
  have hlocks := B.notSynchronized
  have CF : CallFix p m c cX5_letter 2 s args wsX5_letter RX5 := ⟨hx, hb, hml, hown, hts⟩
  have hz : zz (dC, dI) 30 a (wdC cI cZ a σ) s.heap s.heap [] := ⟨hP, va_S.rf⟩
  have hl := lv_entry [.ref (a 0), .int x1] (n := 2) (Nat.le_of_ble_eq_true rfl)
  have hen : entryFrame m args 2 = entryFrame m ([.ref (a 0), .int x1] : List Value).toArray 2 := by rw [hav]
  rw [hen, lg_entry_eq]
  generalize (lg_sl [.ref (a 0), .int x1] ++ List.replicate (2 - (lg_sl [.ref (a 0), .int x1]).length) Slot.unset).toArray = ls at hl ⊢
  have hl : lv_has ls 2 [(0, .ref (a 0)), (1, .int x1)] := hl
  have eR : (headSpec wsX5_letter rmX5_letter).room = rmX5_letter := rfl
  rw [eR]
  have rt : ∀ (v : Int32) (t : St) (pc : Nat) (H : Heap) (locs : List Loc) (ls : Array Slot), decode cX5_letter pc = .ok (.ireturn, 1) → some (v, t) = some (r, σ2) → zz (dC, dI) 30 a (wdC cI cZ a t) s.heap H locs → W p l e rmX5_letter s m args below meth c H locs 0 0 (MQ below (Qzi (dC, dI) 30 a (wdC cI cZ a σ2) sz r) args s 0 0 (aN 30 a sz)) (F0 m pc ls [.int v]) := by
    intro v t pc H locs ls hd h hz
    cases h
    exact ziret hsz hx hb hr hlocks hz hd
  generalize (MQ below (Qzi (dC, dI) 30 a (wdC cI cZ a σ2) sz r) args s 0 0 (aN 30 a sz)) = Q at rt ⊢
  unfold fX5_letter at h
  refine lv_iload_n hx hb dX5_letter_0 rfl (lv_at hl 1 rfl) ?_
  refine lv_bipush (v := (32 : Int32)) hx hb dX5_letter_1 (by decide) ?_
  refine lv_icmp_lt (tgt := 12) hx hb dX5_letter_3 (by decide) (fun c1 => ?_) (fun c1 => ?_)
  · replace h := ite_t c1 h
    refine lv_sipush (v := (-1002 : Int32)) hx hb dX5_letter_12 (by decide) ?_
    exact rt (-1002 : Int32) σ 15 _ _ _ dX5_letter_15 h hz
  · replace h := ite_f c1 h
    refine lv_iload_n hx hb dX5_letter_6 rfl (lv_at hl 1 rfl) ?_
    refine lv_bipush (v := (126 : Int32)) hx hb dX5_letter_7 (by decide) ?_
    refine lv_icmp_le (tgt := 16) hx hb dX5_letter_9 (by decide) (fun c2 => ?_) (fun c2 => ?_)
    · replace h := ite_t c2 h
      refine lv_aload_n hx hb dX5_letter_16 rfl (lv_at hl 0 rfl) ?_
      refine va_get (v := .ref (a 1)) hx hb hts inX5_letter_X5 hown hKK.1 hz.1 0 rfl rfl 0 (by decide) (hts _ (List.mem_of_getElem? (i := 1) rfl)) (fun _ h9 => h9) rfl dX5_letter_17 ?_
      refine lv_iload_n hx hb dX5_letter_20 rfl (lv_at hl 1 rfl) ?_
      obtain ⟨r3, s4, e5, h⟩ := bd2_e h
      refine zcallVi (As := [.int x1]) (rest := []) CF hKK (KX1_append (dC := dC) (dI := dI) (cI := cI) (cZ := cZ) (a := a) hok e5) (cwV 1 hts gX5_letter_X1_append rfl rfl rfl cdX1_append ⟨Nat.le_of_ble_eq_true rfl, Nat.le_of_ble_eq_true rfl⟩) 1 1 rfl rfl hz rfl hl.1 rfl (Nat.le_of_ble_eq_true rfl) dX5_letter_21 ⟨Nat.le_refl _, Nat.le_refl _⟩ (fun H locs hz => ?_)
      refine lv_if_eq (tgt := 37) hx hb dX5_letter_24 (by decide) (fun c6 => ?_) (fun c6 => ?_)
      · replace h := ite_t c6 h
        refine lv_sipush (v := (-1004 : Int32)) hx hb dX5_letter_37 (by decide) ?_
        exact rt (-1004 : Int32) s4 40 _ _ _ dX5_letter_40 h hz
      · replace h := ite_f c6 h
        refine lv_aload_n hx hb dX5_letter_27 rfl (lv_at hl 0 rfl) ?_
        refine va_get (v := .ref (a 1)) hx hb hts inX5_letter_X5 hown hKK.1 hz.1 0 rfl rfl 0 (by decide) (hts _ (List.mem_of_getElem? (i := 1) rfl)) (fun _ h9 => h9) rfl dX5_letter_28 ?_
        obtain ⟨r7, e9, h⟩ := bd1_e h
        refine zcallVi (As := []) (rest := []) CF hKK (KX1_length (dC := dC) (dI := dI) (cI := cI) (cZ := cZ) (a := a) hok e9) (cwV 0 hts gX5_letter_X1_length rfl rfl rfl cdX1_length ⟨Nat.le_of_ble_eq_true rfl, Nat.le_of_ble_eq_true rfl⟩) 1 1 rfl rfl hz rfl hl.1 rfl (Nat.le_of_ble_eq_true rfl) dX5_letter_31 ⟨Nat.le_refl _, Nat.le_refl _⟩ (fun H locs hz => ?_)
        refine lv_goto (tgt := 40) hx hb dX5_letter_34 (by decide) ?_
        exact rt r7 s4 40 _ _ _ dX5_letter_40 h hz
    · replace h := ite_f c2 h
      refine lv_sipush (v := (-1002 : Int32)) hx hb dX5_letter_12 (by decide) ?_
      exact rt (-1002 : Int32) σ 15 _ _ _ dX5_letter_15 h hz
def fX5_blank (σ : St)  : Option (Int32 × St) :=
  (bd1 (fX1_length σ ) fun r1 => (bd1 (fX1_clear σ ) fun s5 => some (r1, s5)))
abbrev rmX5_blank : Room := { frames := 1, cells := 0, slots := 0, locals := 20 }
set_option maxHeartbeats 4000000 in
set_option maxRecDepth 100000 in
theorem KX5_blank {l : Launch} {dC : Nat → ClassId} {dI : Nat → Nat → Nat} {cI cZ : ClassId} {a : Nat → Nat} {σ : St}  {r : Int32} {σ2 : St} (hok : okA 30 a) (h : fX5_blank σ  = some (r, σ2)) (sz : Nat) : Met l yX5_blank wsX5_blank rmX5_blank (Pz (dC, dI) cI cZ (wdC cI cZ a σ) sz [.ref (a 0)]) (Qzi (dC, dI) 30 a (wdC cI cZ a σ2) sz r) 0 0 (aN 30 a sz) := by
  refine Met.ofW (cc := cX5_blank) (maxL := 2) (ret := (some .int)) (by decide) rfl ?_
  intro p e s m args below meth c s₁ B hml hv
  obtain ⟨hav, hsz, hP, hKK⟩ := hv
  have hx := B.exec
  have hb := B.bytes
  have hr := B.returns
  have hts := atoms_spec (ws := wsX5_blank) B.pre
  have hown : s.vm.findClass RX5 = some m.cls := findClass_of_methodNamed B.named
  have hlocks := B.notSynchronized
  have CF : CallFix p m c cX5_blank 2 s args wsX5_blank RX5 := ⟨hx, hb, hml, hown, hts⟩
  have hz : zz (dC, dI) 30 a (wdC cI cZ a σ) s.heap s.heap [] := ⟨hP, va_S.rf⟩
  have hl := lv_entry [.ref (a 0)] (n := 2) (Nat.le_of_ble_eq_true rfl)
  have hen : entryFrame m args 2 = entryFrame m ([.ref (a 0)] : List Value).toArray 2 := by rw [hav]
  rw [hen, lg_entry_eq]
  generalize (lg_sl [.ref (a 0)] ++ List.replicate (2 - (lg_sl [.ref (a 0)]).length) Slot.unset).toArray = ls at hl ⊢
  have hl : lv_has ls 2 [(0, .ref (a 0))] := hl
  have eR : (headSpec wsX5_blank rmX5_blank).room = rmX5_blank := rfl
  rw [eR]
  have rt : ∀ (v : Int32) (t : St) (pc : Nat) (H : Heap) (locs : List Loc) (ls : Array Slot), decode cX5_blank pc = .ok (.ireturn, 1) → some (v, t) = some (r, σ2) → zz (dC, dI) 30 a (wdC cI cZ a t) s.heap H locs → W p l e rmX5_blank s m args below meth c H locs 0 0 (MQ below (Qzi (dC, dI) 30 a (wdC cI cZ a σ2) sz r) args s 0 0 (aN 30 a sz)) (F0 m pc ls [.int v]) := by
    intro v t pc H locs ls hd h hz
    cases h
    exact ziret hsz hx hb hr hlocks hz hd
  generalize (MQ below (Qzi (dC, dI) 30 a (wdC cI cZ a σ2) sz r) args s 0 0 (aN 30 a sz)) = Q at rt ⊢
  unfold fX5_blank at h
  refine lv_aload_n hx hb dX5_blank_0 rfl (lv_at hl 0 rfl) ?_
  refine va_get (v := .ref (a 1)) hx hb hts inX5_blank_X5 hown hKK.1 hz.1 0 rfl rfl 0 (by decide) (hts _ (List.mem_of_getElem? (i := 1) rfl)) (fun _ h9 => h9) rfl dX5_blank_1 ?_
  obtain ⟨r1, e3, h⟩ := bd1_e h
  refine zcallVi (As := []) (rest := []) CF hKK (KX1_length (dC := dC) (dI := dI) (cI := cI) (cZ := cZ) (a := a) hok e3) (cwV 0 hts gX5_blank_X1_length rfl rfl rfl cdX1_length ⟨Nat.le_of_ble_eq_true rfl, Nat.le_of_ble_eq_true rfl⟩) 1 1 rfl rfl hz rfl hl.1 rfl (Nat.le_of_ble_eq_true rfl) dX5_blank_4 ⟨Nat.le_refl _, Nat.le_refl _⟩ (fun H locs hz => ?_)
  refine lv_istore_n (lv' := [(1, .int r1), (0, .ref (a 0))]) hx hb dX5_blank_7 rfl hl (by decide) rfl (fun ls hl => ?_)
  refine lv_aload_n hx hb dX5_blank_8 rfl (lv_at hl 1 rfl) ?_
  refine va_get (v := .ref (a 1)) hx hb hts inX5_blank_X5 hown hKK.1 hz.1 0 rfl rfl 0 (by decide) (hts _ (List.mem_of_getElem? (i := 1) rfl)) (fun _ h9 => h9) rfl dX5_blank_9 ?_
  obtain ⟨s5, e6, h⟩ := bd1_e h
  refine zcallVv (As := []) (rest := []) CF hKK (KX1_clear (dC := dC) (dI := dI) (cI := cI) (cZ := cZ) (a := a) hok e6) (cwV 0 hts gX5_blank_X1_clear rfl rfl rfl cdX1_clear ⟨Nat.le_of_ble_eq_true rfl, Nat.le_of_ble_eq_true rfl⟩) 1 1 rfl rfl hz rfl hl.1 rfl (Nat.le_of_ble_eq_true rfl) dX5_blank_12 ⟨Nat.le_refl _, Nat.le_refl _⟩ (fun H locs hz => ?_)
  refine lv_iload_n hx hb dX5_blank_15 rfl (lv_at hl 0 rfl) ?_
  exact rt r1 s5 16 _ _ _ dX5_blank_16 h hz
def fX5_fault (σ : St)  : Option (Int32 × St) :=
  (bd2 (fX3_read σ ) fun r1 s2 => some (r1, s2))
abbrev rmX5_fault : Room := { frames := 4, cells := 0, slots := 0, locals := 91 }
set_option maxHeartbeats 4000000 in
set_option maxRecDepth 100000 in
theorem KX5_fault {l : Launch} {dC : Nat → ClassId} {dI : Nat → Nat → Nat} {cI cZ : ClassId} {a : Nat → Nat} {σ : St}  {r : Int32} {σ2 : St} (hok : okA 30 a) (h : fX5_fault σ  = some (r, σ2)) (sz : Nat) : Met l yX5_fault wsX5_fault rmX5_fault (Pz (dC, dI) cI cZ (wdC cI cZ a σ) sz [.ref (a 0)]) (Qzi (dC, dI) 30 a (wdC cI cZ a σ2) sz r) 0 0 (aN 30 a sz) := by
  refine Met.ofW (cc := cX5_fault) (maxL := 1) (ret := (some .int)) (by decide) rfl ?_
  intro p e s m args below meth c s₁ B hml hv
  obtain ⟨hav, hsz, hP, hKK⟩ := hv
  have hx := B.exec
  have hb := B.bytes
  have hr := B.returns
  have hts := atoms_spec (ws := wsX5_fault) B.pre
  have hown : s.vm.findClass RX5 = some m.cls := findClass_of_methodNamed B.named
  have hlocks := B.notSynchronized
  have CF : CallFix p m c cX5_fault 1 s args wsX5_fault RX5 := ⟨hx, hb, hml, hown, hts⟩
  have hz : zz (dC, dI) 30 a (wdC cI cZ a σ) s.heap s.heap [] := ⟨hP, va_S.rf⟩
  have hl := lv_entry [.ref (a 0)] (n := 1) (Nat.le_of_ble_eq_true rfl)
  have hen : entryFrame m args 1 = entryFrame m ([.ref (a 0)] : List Value).toArray 1 := by rw [hav]
  rw [hen, lg_entry_eq]
  generalize (lg_sl [.ref (a 0)] ++ List.replicate (1 - (lg_sl [.ref (a 0)]).length) Slot.unset).toArray = ls at hl ⊢
  have hl : lv_has ls 1 [(0, .ref (a 0))] := hl
  have eR : (headSpec wsX5_fault rmX5_fault).room = rmX5_fault := rfl
  rw [eR]
  have rt : ∀ (v : Int32) (t : St) (pc : Nat) (H : Heap) (locs : List Loc) (ls : Array Slot), decode cX5_fault pc = .ok (.ireturn, 1) → some (v, t) = some (r, σ2) → zz (dC, dI) 30 a (wdC cI cZ a t) s.heap H locs → W p l e rmX5_fault s m args below meth c H locs 0 0 (MQ below (Qzi (dC, dI) 30 a (wdC cI cZ a σ2) sz r) args s 0 0 (aN 30 a sz)) (F0 m pc ls [.int v]) := by
    intro v t pc H locs ls hd h hz
    cases h
    exact ziret hsz hx hb hr hlocks hz hd
  generalize (MQ below (Qzi (dC, dI) 30 a (wdC cI cZ a σ2) sz r) args s 0 0 (aN 30 a sz)) = Q at rt ⊢
  unfold fX5_fault at h
  refine lv_aload_n hx hb dX5_fault_0 rfl (lv_at hl 0 rfl) ?_
  refine va_get (v := .ref (a 3)) hx hb hts inX5_fault_X5 hown hKK.1 hz.1 0 rfl rfl 1 (by decide) (hts _ (List.mem_of_getElem? (i := 1) rfl)) (fun _ h9 => h9) rfl dX5_fault_1 ?_
  refine lv_aload_n hx hb dX5_fault_4 rfl (lv_at hl 0 rfl) ?_
  refine va_get (v := .ref (a 1)) hx hb hts inX5_fault_X5 hown hKK.1 hz.1 0 rfl rfl 0 (by decide) (hts _ (List.mem_of_getElem? (i := 2) rfl)) (fun _ h9 => h9) rfl dX5_fault_5 ?_
  obtain ⟨r1, s2, e3, h⟩ := bd2_e h
  refine zcallVi (As := [.ref (a 1)]) (rest := []) CF hKK (KX3_read (dC := dC) (dI := dI) (cI := cI) (cZ := cZ) (a := a) hok e3) (cwV 1 hts gX5_fault_X3_read rfl rfl rfl cdX3_read ⟨Nat.le_of_ble_eq_true rfl, Nat.le_of_ble_eq_true rfl⟩) 3 3 rfl rfl hz rfl hl.1 rfl (Nat.le_of_ble_eq_true rfl) dX5_fault_8 ⟨Nat.le_refl _, Nat.le_refl _⟩ (fun H locs hz => ?_)
  exact rt r1 s2 11 _ _ _ dX5_fault_11 h hz
def fX5_code (σ : St)  : Option (Int32 × St) :=
  (bd2 (fX3_read σ ) fun r1 s2 => (bd1 (fX1_length s2 ) fun r4 => (if r1 < r4 then (some ((-1003 : Int32), s2)) else ((bd1 (fX3_isWhole s2 ) fun r8 => (if r8 = 0 then (some ((-1003 : Int32), s2)) else ((bd1 (fX0_takeFrom_p s2 ) fun s13 => (bd1 (fX1_clear s13 ) fun s16 => (bd1 (fX2_placeAll (si s16 40 ((s16 40 0) + (1 : Int32))) ) fun s19 => (bd1 (fX0_size_p s19 ) fun r21 => some (r21, s19))))))))))))
abbrev rmX5_code : Room := { frames := 6, cells := 0, slots := 0, locals := 138 }
set_option maxHeartbeats 4000000 in
set_option maxRecDepth 100000 in
theorem KX5_code {l : Launch} {dC : Nat → ClassId} {dI : Nat → Nat → Nat} {cI cZ : ClassId} {a : Nat → Nat} {σ : St}  {r : Int32} {σ2 : St} (hok : okA 30 a) (h : fX5_code σ  = some (r, σ2)) (sz : Nat) : Met l yX5_code wsX5_code rmX5_code (Pz (dC, dI) cI cZ (wdC cI cZ a σ) sz [.ref (a 0)]) (Qzi (dC, dI) 30 a (wdC cI cZ a σ2) sz r) 0 0 (aN 30 a sz) := by
  refine Met.ofW (cc := cX5_code) (maxL := 1) (ret := (some .int)) (by decide) rfl ?_
  intro p e s m args below meth c s₁ B hml hv
  obtain ⟨hav, hsz, hP, hKK⟩ := hv
  have hx := B.exec
  have hb := B.bytes
  have hr := B.returns
  have hts := atoms_spec (ws := wsX5_code) B.pre
  have hown : s.vm.findClass RX5 = some m.cls := findClass_of_methodNamed B.named
  have hlocks := B.notSynchronized
  have CF : CallFix p m c cX5_code 1 s args wsX5_code RX5 := ⟨hx, hb, hml, hown, hts⟩
  have hz : zz (dC, dI) 30 a (wdC cI cZ a σ) s.heap s.heap [] := ⟨hP, va_S.rf⟩
  have hl := lv_entry [.ref (a 0)] (n := 1) (Nat.le_of_ble_eq_true rfl)
  have hen : entryFrame m args 1 = entryFrame m ([.ref (a 0)] : List Value).toArray 1 := by rw [hav]
  rw [hen, lg_entry_eq]
  generalize (lg_sl [.ref (a 0)] ++ List.replicate (1 - (lg_sl [.ref (a 0)]).length) Slot.unset).toArray = ls at hl ⊢
  have hl : lv_has ls 1 [(0, .ref (a 0))] := hl
  have eR : (headSpec wsX5_code rmX5_code).room = rmX5_code := rfl
  rw [eR]
  have rt : ∀ (v : Int32) (t : St) (pc : Nat) (H : Heap) (locs : List Loc) (ls : Array Slot), decode cX5_code pc = .ok (.ireturn, 1) → some (v, t) = some (r, σ2) → zz (dC, dI) 30 a (wdC cI cZ a t) s.heap H locs → W p l e rmX5_code s m args below meth c H locs 0 0 (MQ below (Qzi (dC, dI) 30 a (wdC cI cZ a σ2) sz r) args s 0 0 (aN 30 a sz)) (F0 m pc ls [.int v]) := by
    intro v t pc H locs ls hd h hz
    cases h
    exact ziret hsz hx hb hr hlocks hz hd
  generalize (MQ below (Qzi (dC, dI) 30 a (wdC cI cZ a σ2) sz r) args s 0 0 (aN 30 a sz)) = Q at rt ⊢
  unfold fX5_code at h
  refine lv_aload_n hx hb dX5_code_0 rfl (lv_at hl 0 rfl) ?_
  refine va_get (v := .ref (a 3)) hx hb hts inX5_code_X5 hown hKK.1 hz.1 0 rfl rfl 1 (by decide) (hts _ (List.mem_of_getElem? (i := 1) rfl)) (fun _ h9 => h9) rfl dX5_code_1 ?_
  refine lv_aload_n hx hb dX5_code_4 rfl (lv_at hl 0 rfl) ?_
  refine va_get (v := .ref (a 1)) hx hb hts inX5_code_X5 hown hKK.1 hz.1 0 rfl rfl 0 (by decide) (hts _ (List.mem_of_getElem? (i := 2) rfl)) (fun _ h9 => h9) rfl dX5_code_5 ?_
  obtain ⟨r1, s2, e3, h⟩ := bd2_e h
  refine zcallVi (As := [.ref (a 1)]) (rest := []) CF hKK (KX3_read (dC := dC) (dI := dI) (cI := cI) (cZ := cZ) (a := a) hok e3) (cwV 1 hts gX5_code_X3_read rfl rfl rfl cdX3_read ⟨Nat.le_of_ble_eq_true rfl, Nat.le_of_ble_eq_true rfl⟩) 3 3 rfl rfl hz rfl hl.1 rfl (Nat.le_of_ble_eq_true rfl) dX5_code_8 ⟨Nat.le_refl _, Nat.le_refl _⟩ (fun H locs hz => ?_)
  refine lv_aload_n hx hb dX5_code_11 rfl (lv_at hl 0 rfl) ?_
  refine va_get (v := .ref (a 1)) hx hb hts inX5_code_X5 hown hKK.1 hz.1 0 rfl rfl 0 (by decide) (hts _ (List.mem_of_getElem? (i := 2) rfl)) (fun _ h9 => h9) rfl dX5_code_12 ?_
  obtain ⟨r4, e6, h⟩ := bd1_e h
  refine zcallVi (As := []) (rest := [.int r1]) CF hKK (KX1_length (dC := dC) (dI := dI) (cI := cI) (cZ := cZ) (a := a) hok e6) (cwV 0 hts gX5_code_X1_length rfl rfl rfl cdX1_length ⟨Nat.le_of_ble_eq_true rfl, Nat.le_of_ble_eq_true rfl⟩) 1 1 rfl rfl hz rfl hl.1 rfl (Nat.le_of_ble_eq_true rfl) dX5_code_15 ⟨Nat.le_refl _, Nat.le_refl _⟩ (fun H locs hz => ?_)
  refine lv_icmp_lt (tgt := 31) hx hb dX5_code_18 (by decide) (fun c7 => ?_) (fun c7 => ?_)
  · replace h := ite_t c7 h
    refine lv_sipush (v := (-1003 : Int32)) hx hb dX5_code_31 (by decide) ?_
    exact rt (-1003 : Int32) s2 34 _ _ _ dX5_code_34 h hz
  · replace h := ite_f c7 h
    refine lv_aload_n hx hb dX5_code_21 rfl (lv_at hl 0 rfl) ?_
    refine va_get (v := .ref (a 3)) hx hb hts inX5_code_X5 hown hKK.1 hz.1 0 rfl rfl 1 (by decide) (hts _ (List.mem_of_getElem? (i := 1) rfl)) (fun _ h9 => h9) rfl dX5_code_22 ?_
    obtain ⟨r8, e10, h⟩ := bd1_e h
    refine zcallVi (As := []) (rest := []) CF hKK (KX3_isWhole (dC := dC) (dI := dI) (cI := cI) (cZ := cZ) (a := a) hok e10) (cwV 0 hts gX5_code_X3_isWhole rfl rfl rfl cdX3_isWhole ⟨Nat.le_of_ble_eq_true rfl, Nat.le_of_ble_eq_true rfl⟩) 3 3 rfl rfl hz rfl hl.1 rfl (Nat.le_of_ble_eq_true rfl) dX5_code_25 ⟨Nat.le_refl _, Nat.le_refl _⟩ (fun H locs hz => ?_)
    refine lv_if_ne (tgt := 35) hx hb dX5_code_28 (by decide) (fun c11 => ?_) (fun c11 => ?_)
    · replace h := ite_f c11 h
      refine lv_aload_n hx hb dX5_code_35 rfl (lv_at hl 0 rfl) ?_
      refine va_get (v := .ref (a 7)) hx hb hts inX5_code_X5 hown hKK.1 hz.1 0 rfl rfl 2 (by decide) (hts _ (List.mem_of_getElem? (i := 3) rfl)) (fun _ h9 => h9) rfl dX5_code_36 ?_
      refine lv_aload_n hx hb dX5_code_39 rfl (lv_at hl 0 rfl) ?_
      refine va_get (v := .ref (a 3)) hx hb hts inX5_code_X5 hown hKK.1 hz.1 0 rfl rfl 1 (by decide) (hts _ (List.mem_of_getElem? (i := 1) rfl)) (fun _ h9 => h9) rfl dX5_code_40 ?_
      refine va_getN (v := .ref (a 4)) hx hb hts inX5_code_X3 hown hKK.1 hz.1 3 rfl rfl 0 (by decide) (va_Nw.use rfl hKK.2.2.2.2.1) (fun _ h9 => h9) rfl dX5_code_43 ?_
      obtain ⟨s13, e14, h⟩ := bd1_e h
      refine zcallVv (As := [.ref (a 4)]) (rest := []) CF hKK (KX0_takeFrom_p (dC := dC) (dI := dI) (cI := cI) (cZ := cZ) (a := a) hok e14) (cwV 1 hts gX5_code_X0_takeFrom rfl rfl rfl cdX0_takeFrom ⟨Nat.le_of_ble_eq_true rfl, Nat.le_of_ble_eq_true rfl⟩) 7 0 rfl rfl hz rfl hl.1 rfl (Nat.le_of_ble_eq_true rfl) dX5_code_46 ⟨Nat.le_refl _, Nat.le_refl _⟩ (fun H locs hz => ?_)
      refine lv_aload_n hx hb dX5_code_49 rfl (lv_at hl 0 rfl) ?_
      refine va_get (v := .ref (a 1)) hx hb hts inX5_code_X5 hown hKK.1 hz.1 0 rfl rfl 0 (by decide) (hts _ (List.mem_of_getElem? (i := 2) rfl)) (fun _ h9 => h9) rfl dX5_code_50 ?_
      obtain ⟨s16, e17, h⟩ := bd1_e h
      refine zcallVv (As := []) (rest := []) CF hKK (KX1_clear (dC := dC) (dI := dI) (cI := cI) (cZ := cZ) (a := a) hok e17) (cwV 0 hts gX5_code_X1_clear rfl rfl rfl cdX1_clear ⟨Nat.le_of_ble_eq_true rfl, Nat.le_of_ble_eq_true rfl⟩) 1 1 rfl rfl hz rfl hl.1 rfl (Nat.le_of_ble_eq_true rfl) dX5_code_53 ⟨Nat.le_refl _, Nat.le_refl _⟩ (fun H locs hz => ?_)
      refine lv_aload_n hx hb dX5_code_56 rfl (lv_at hl 0 rfl) ?_
      refine lv_dup hx hb dX5_code_57 rfl ?_
      refine va_get (v := .int (s16 40 0)) hx hb hts inX5_code_X5 hown hKK.1 hz.1 0 rfl rfl 5 (by decide) (hts _ (List.mem_of_getElem? (i := 4) rfl)) (fun _ h9 => h9) rfl dX5_code_58 ?_
      refine lv_iconst (v := (1 : Int32)) hx hb dX5_code_61 (by decide) ?_
      refine lv_iadd hx hb dX5_code_62 ?_
      refine zput (ty := .int) (w' := wdC cI cZ a (si s16 40 ((s16 40 0) + (1 : Int32)))) hx hb hts inX5_code_X5 tyX5 tyX5_ok nmX5 hown hKK hok wkC hz 0 rfl rfl 5 (by decide) (hts _ (List.mem_of_getElem? (i := 4) rfl)) (fun _ h9 => h9) rfl rfl rfl rfl (Nat.le_of_ble_eq_true rfl) setCi_40 dX5_code_63 (fun H locs hz => ?_)
      refine lv_aload_n hx hb dX5_code_66 rfl (lv_at hl 0 rfl) ?_
      refine va_get (v := .ref (a 11)) hx hb hts inX5_code_X5 hown hKK.1 hz.1 0 rfl rfl 4 (by decide) (hts _ (List.mem_of_getElem? (i := 5) rfl)) (fun _ h9 => h9) rfl dX5_code_67 ?_
      obtain ⟨s19, e20, h⟩ := bd1_e h
      refine zcallVv (As := []) (rest := []) CF hKK (KX2_placeAll (dC := dC) (dI := dI) (cI := cI) (cZ := cZ) (a := a) hok e20) (cwV 0 hts gX5_code_X2_placeAll rfl rfl rfl cdX2_placeAll ⟨Nat.le_of_ble_eq_true rfl, Nat.le_of_ble_eq_true rfl⟩) 11 2 rfl rfl hz rfl hl.1 rfl (Nat.le_of_ble_eq_true rfl) dX5_code_70 ⟨Nat.le_refl _, Nat.le_refl _⟩ (fun H locs hz => ?_)
      refine lv_aload_n hx hb dX5_code_73 rfl (lv_at hl 0 rfl) ?_
      refine va_get (v := .ref (a 7)) hx hb hts inX5_code_X5 hown hKK.1 hz.1 0 rfl rfl 2 (by decide) (hts _ (List.mem_of_getElem? (i := 3) rfl)) (fun _ h9 => h9) rfl dX5_code_74 ?_
      obtain ⟨r21, e23, h⟩ := bd1_e h
      refine zcallVi (As := []) (rest := []) CF hKK (KX0_size_p (dC := dC) (dI := dI) (cI := cI) (cZ := cZ) (a := a) hok e23) (cwV 0 hts gX5_code_X0_size rfl rfl rfl cdX0_size ⟨Nat.le_of_ble_eq_true rfl, Nat.le_of_ble_eq_true rfl⟩) 7 0 rfl rfl hz rfl hl.1 rfl (Nat.le_of_ble_eq_true rfl) dX5_code_77 ⟨Nat.le_refl _, Nat.le_refl _⟩ (fun H locs hz => ?_)
      exact rt r21 s19 80 _ _ _ dX5_code_80 h hz
    · replace h := ite_t c11 h
      refine lv_sipush (v := (-1003 : Int32)) hx hb dX5_code_31 (by decide) ?_
      exact rt (-1003 : Int32) s2 34 _ _ _ dX5_code_34 h hz
def fX5_reach (σ : St) (x1 : Int32) (x2 : Int32) : Option (Int32 × St) :=
  (if x1 < 0 then (some ((-1002 : Int32), σ)) else ((if x1 ≤ (2 : Int32) then ((ck (¬ (x1 < 0 ∨ 3 ≤ Int32.toNatClampNeg x1)) <| (if x2 < (lr (Int32.toNatClampNeg x1)) then (some ((-1002 : Int32), σ)) else ((ck (¬ (x1 < 0 ∨ 3 ≤ Int32.toNatClampNeg x1)) <| (if x2 ≤ (mr (Int32.toNatClampNeg x1)) then ((ck (¬ (x1 < 0 ∨ 3 ≤ Int32.toNatClampNeg x1)) <| (ck (¬ (x1 < 0 ∨ 3 ≤ Int32.toNatClampNeg x1)) <| (bd1 (fX2_placeAll (si (sa σ 10 (Int32.toNatClampNeg x1) x2) 41 ((σ 41 0) + (1 : Int32))) ) fun s10 => some (((σ 10) (Int32.toNatClampNeg x1)), s10))))) else (some ((-1002 : Int32), σ)))))))) else (some ((-1002 : Int32), σ)))))
abbrev rmX5_reach : Room := { frames := 6, cells := 0, slots := 0, locals := 138 }
set_option maxHeartbeats 4000000 in
set_option maxRecDepth 100000 in
theorem KX5_reach {l : Launch} {dC : Nat → ClassId} {dI : Nat → Nat → Nat} {cI cZ : ClassId} {a : Nat → Nat} {q1 q2 : Nat} {σ : St} {x1 : Int32} {x2 : Int32} {r : Int32} {σ2 : St} (hok : okA 30 a) (h : fX5_reach σ x1 x2 = some (r, σ2)) (sz : Nat) : Met l yX5_reach wsX5_reach rmX5_reach (PzR q1 q2 a (dC, dI) cI cZ (wdC cI cZ a σ) sz [.ref (a 0), .int x1, .int x2]) (Qzi (dC, dI) 30 a (wdC cI cZ a σ2) sz r) 0 0 (aN 30 a sz) := by
  refine Met.ofW (cc := cX5_reach) (maxL := 4) (ret := (some .int)) (by decide) rfl ?_
  intro p e s m args below meth c s₁ B hml hv
  obtain ⟨hav, hsz, hP, hKK, hTb⟩ := hv
  have hx := B.exec
  have hb := B.bytes
  have hr := B.returns
  have hts := atoms_spec (ws := wsX5_reach) B.pre
  have hown : s.vm.findClass RX5 = some m.cls := findClass_of_methodNamed B.named
  have hlocks := B.notSynchronized
  have CF : CallFix p m c cX5_reach 4 s args wsX5_reach RX5 := ⟨hx, hb, hml, hown, hts⟩
  have hz : zz (dC, dI) 30 a (wdC cI cZ a σ) s.heap s.heap [] := ⟨hP, va_S.rf⟩
  have hl := lv_entry [.ref (a 0), .int x1, .int x2] (n := 4) (Nat.le_of_ble_eq_true rfl)
  have hen : entryFrame m args 4 = entryFrame m ([.ref (a 0), .int x1, .int x2] : List Value).toArray 4 := by rw [hav]
  rw [hen, lg_entry_eq]
  generalize (lg_sl [.ref (a 0), .int x1, .int x2] ++ List.replicate (4 - (lg_sl [.ref (a 0), .int x1, .int x2]).length) Slot.unset).toArray = ls at hl ⊢
  have hl : lv_has ls 4 [(0, .ref (a 0)), (1, .int x1), (2, .int x2)] := hl
  have eR : (headSpec wsX5_reach rmX5_reach).room = rmX5_reach := rfl
  rw [eR]
  have rt : ∀ (v : Int32) (t : St) (pc : Nat) (H : Heap) (locs : List Loc) (ls : Array Slot), decode cX5_reach pc = .ok (.ireturn, 1) → some (v, t) = some (r, σ2) → zz (dC, dI) 30 a (wdC cI cZ a t) s.heap H locs → W p l e rmX5_reach s m args below meth c H locs 0 0 (MQ below (Qzi (dC, dI) 30 a (wdC cI cZ a σ2) sz r) args s 0 0 (aN 30 a sz)) (F0 m pc ls [.int v]) := by
    intro v t pc H locs ls hd h hz
    cases h
    exact ziret hsz hx hb hr hlocks hz hd
  generalize (MQ below (Qzi (dC, dI) 30 a (wdC cI cZ a σ2) sz r) args s 0 0 (aN 30 a sz)) = Q at rt ⊢
  unfold fX5_reach at h
  refine lv_iload_n hx hb dX5_reach_0 rfl (lv_at hl 1 rfl) ?_
  refine lv_if_lt (tgt := 9) hx hb dX5_reach_1 (by decide) (fun c1 => ?_) (fun c1 => ?_)
  · replace h := ite_t c1 h
    refine lv_sipush (v := (-1002 : Int32)) hx hb dX5_reach_9 (by decide) ?_
    exact rt (-1002 : Int32) σ 12 _ _ _ dX5_reach_12 h hz
  · replace h := ite_f c1 h
    refine lv_iload_n hx hb dX5_reach_4 rfl (lv_at hl 1 rfl) ?_
    refine lv_iconst (v := (2 : Int32)) hx hb dX5_reach_5 (by decide) ?_
    refine lv_icmp_le (tgt := 13) hx hb dX5_reach_6 (by decide) (fun c2 => ?_) (fun c2 => ?_)
    · replace h := ite_t c2 h
      refine lv_iload_n hx hb dX5_reach_13 rfl (lv_at hl 2 rfl) ?_
      refine va_gets hx hb hTb.1 hz.2 hown (hts _ (List.mem_of_getElem? (i := 1) rfl)) (fun _ h9 => h9) dX5_reach_14 ?_
      refine lv_iload_n hx hb dX5_reach_17 rfl (lv_at hl 1 rfl) ?_
      obtain ⟨c3, h⟩ := ck_e h
      refine va_ti (v := .int (lr (Int32.toNatClampNeg x1))) hx hb hTb.2.1 hz.2 c3 rfl dX5_reach_18 ?_
      refine lv_icmp_lt (tgt := 31) hx hb dX5_reach_19 (by decide) (fun c4 => ?_) (fun c4 => ?_)
      · replace h := ite_t c4 h
        refine lv_sipush (v := (-1002 : Int32)) hx hb dX5_reach_31 (by decide) ?_
        exact rt (-1002 : Int32) σ 34 _ _ _ dX5_reach_34 h hz
      · replace h := ite_f c4 h
        refine lv_iload_n hx hb dX5_reach_22 rfl (lv_at hl 2 rfl) ?_
        refine va_gets hx hb hTb.2.2.1 hz.2 hown (hts _ (List.mem_of_getElem? (i := 2) rfl)) (fun _ h9 => h9) dX5_reach_23 ?_
        refine lv_iload_n hx hb dX5_reach_26 rfl (lv_at hl 1 rfl) ?_
        obtain ⟨c5, h⟩ := ck_e h
        refine va_ti (v := .int (mr (Int32.toNatClampNeg x1))) hx hb hTb.2.2.2 hz.2 c5 rfl dX5_reach_27 ?_
        refine lv_icmp_le (tgt := 35) hx hb dX5_reach_28 (by decide) (fun c6 => ?_) (fun c6 => ?_)
        · replace h := ite_t c6 h
          refine lv_aload_n hx hb dX5_reach_35 rfl (lv_at hl 0 rfl) ?_
          refine va_get (v := .ref (a 10)) hx hb hts inX5_reach_X5 hown hKK.1 hz.1 0 rfl rfl 3 (by decide) (hts _ (List.mem_of_getElem? (i := 3) rfl)) (fun _ h9 => h9) rfl dX5_reach_36 ?_
          refine lv_iload_n hx hb dX5_reach_39 rfl (lv_at hl 1 rfl) ?_
          obtain ⟨c7, h⟩ := ck_e h
          refine va_iald (f := (σ 10)) hx hb hKK.1 hz.1 10 0 rfl rfl c7 dX5_reach_40 ?_
          refine lv_istore_n (lv' := [(3, .int ((σ 10) (Int32.toNatClampNeg x1))), (0, .ref (a 0)), (1, .int x1), (2, .int x2)]) hx hb dX5_reach_41 rfl hl (by decide) rfl (fun ls hl => ?_)
          refine lv_aload_n hx hb dX5_reach_42 rfl (lv_at hl 1 rfl) ?_
          refine va_get (v := .ref (a 10)) hx hb hts inX5_reach_X5 hown hKK.1 hz.1 0 rfl rfl 3 (by decide) (hts _ (List.mem_of_getElem? (i := 3) rfl)) (fun _ h9 => h9) rfl dX5_reach_43 ?_
          refine lv_iload_n hx hb dX5_reach_46 rfl (lv_at hl 2 rfl) ?_
          refine lv_iload_n hx hb dX5_reach_47 rfl (lv_at hl 3 rfl) ?_
          obtain ⟨c8, h⟩ := ck_e h
          refine ziast (f := σ 10) (w' := wdC cI cZ a (sa σ 10 (Int32.toNatClampNeg x1) x2)) hx hb hKK hok wkC hz 10 rfl c8 setCa_10 dX5_reach_48 (fun H locs hz => ?_)
          refine lv_aload_n hx hb dX5_reach_49 rfl (lv_at hl 1 rfl) ?_
          refine lv_dup hx hb dX5_reach_50 rfl ?_
          refine va_get (v := .int (σ 41 0)) hx hb hts inX5_reach_X5 hown hKK.1 hz.1 0 rfl rfl 6 (by decide) (hts _ (List.mem_of_getElem? (i := 4) rfl)) (fun _ h9 => h9) rfl dX5_reach_51 ?_
          refine lv_iconst (v := (1 : Int32)) hx hb dX5_reach_54 (by decide) ?_
          refine lv_iadd hx hb dX5_reach_55 ?_
          refine zput (ty := .int) (w' := wdC cI cZ a (si (sa σ 10 (Int32.toNatClampNeg x1) x2) 41 ((σ 41 0) + (1 : Int32)))) hx hb hts inX5_reach_X5 tyX5 tyX5_ok nmX5 hown hKK hok wkC hz 0 rfl rfl 6 (by decide) (hts _ (List.mem_of_getElem? (i := 4) rfl)) (fun _ h9 => h9) rfl rfl rfl rfl (Nat.le_of_ble_eq_true rfl) setCi_41 dX5_reach_56 (fun H locs hz => ?_)
          refine lv_aload_n hx hb dX5_reach_59 rfl (lv_at hl 1 rfl) ?_
          refine va_get (v := .ref (a 11)) hx hb hts inX5_reach_X5 hown hKK.1 hz.1 0 rfl rfl 4 (by decide) (hts _ (List.mem_of_getElem? (i := 5) rfl)) (fun _ h9 => h9) rfl dX5_reach_60 ?_
          obtain ⟨s10, e11, h⟩ := bd1_e h
          refine zcallVv (As := []) (rest := []) CF hKK (KX2_placeAll (dC := dC) (dI := dI) (cI := cI) (cZ := cZ) (a := a) hok e11) (cwV 0 hts gX5_reach_X2_placeAll rfl rfl rfl cdX2_placeAll ⟨Nat.le_of_ble_eq_true rfl, Nat.le_of_ble_eq_true rfl⟩) 11 2 rfl rfl hz rfl hl.1 rfl (Nat.le_of_ble_eq_true rfl) dX5_reach_63 ⟨Nat.le_refl _, Nat.le_refl _⟩ (fun H locs hz => ?_)
          refine lv_iload_n hx hb dX5_reach_66 rfl (lv_at hl 0 rfl) ?_
          exact rt ((σ 10) (Int32.toNatClampNeg x1)) s10 67 _ _ _ dX5_reach_67 h hz
        · replace h := ite_f c6 h
          refine lv_sipush (v := (-1002 : Int32)) hx hb dX5_reach_31 (by decide) ?_
          exact rt (-1002 : Int32) σ 34 _ _ _ dX5_reach_34 h hz
    · replace h := ite_f c2 h
      refine lv_sipush (v := (-1002 : Int32)) hx hb dX5_reach_9 (by decide) ?_
      exact rt (-1002 : Int32) σ 12 _ _ _ dX5_reach_12 h hz
def fX5_grow (σ : St) (x1 : Int32) (x2 : Int32) : Option (Int32 × St) :=
  (bd1 (fX0_has_p σ x1) fun r1 => (if r1 = 0 then (some ((-1001 : Int32), σ)) else ((if x2 < (1 : Int32) then (some ((-1002 : Int32), σ)) else ((if x2 ≤ (40 : Int32) then ((bd1 (fX0_kindOf_p σ x1) fun r7 => (if r7 = 0 then ((bd1 (fX0_toldOf_p σ x1) fun r11 => (bd1 (fX0_tell_p σ x1 x2) fun s15 => (bd1 (fX2_placeAll (si s15 41 ((s15 41 0) + (1 : Int32))) ) fun s18 => some (r11, s18))))) else (some ((-1003 : Int32), σ))))) else (some ((-1002 : Int32), σ))))))))
abbrev rmX5_grow : Room := { frames := 6, cells := 0, slots := 0, locals := 138 }
set_option maxHeartbeats 4000000 in
set_option maxRecDepth 100000 in
theorem KX5_grow {l : Launch} {dC : Nat → ClassId} {dI : Nat → Nat → Nat} {cI cZ : ClassId} {a : Nat → Nat} {σ : St} {x1 : Int32} {x2 : Int32} {r : Int32} {σ2 : St} (hok : okA 30 a) (h : fX5_grow σ x1 x2 = some (r, σ2)) (sz : Nat) : Met l yX5_grow wsX5_grow rmX5_grow (Pz (dC, dI) cI cZ (wdC cI cZ a σ) sz [.ref (a 0), .int x1, .int x2]) (Qzi (dC, dI) 30 a (wdC cI cZ a σ2) sz r) 0 0 (aN 30 a sz) := by
  refine Met.ofW (cc := cX5_grow) (maxL := 4) (ret := (some .int)) (by decide) rfl ?_
  intro p e s m args below meth c s₁ B hml hv
  obtain ⟨hav, hsz, hP, hKK⟩ := hv
  have hx := B.exec
  have hb := B.bytes
  have hr := B.returns
  have hts := atoms_spec (ws := wsX5_grow) B.pre
  have hown : s.vm.findClass RX5 = some m.cls := findClass_of_methodNamed B.named
  have hlocks := B.notSynchronized
  have CF : CallFix p m c cX5_grow 4 s args wsX5_grow RX5 := ⟨hx, hb, hml, hown, hts⟩
  have hz : zz (dC, dI) 30 a (wdC cI cZ a σ) s.heap s.heap [] := ⟨hP, va_S.rf⟩
  have hl := lv_entry [.ref (a 0), .int x1, .int x2] (n := 4) (Nat.le_of_ble_eq_true rfl)
  have hen : entryFrame m args 4 = entryFrame m ([.ref (a 0), .int x1, .int x2] : List Value).toArray 4 := by rw [hav]
  rw [hen, lg_entry_eq]
  generalize (lg_sl [.ref (a 0), .int x1, .int x2] ++ List.replicate (4 - (lg_sl [.ref (a 0), .int x1, .int x2]).length) Slot.unset).toArray = ls at hl ⊢
  have hl : lv_has ls 4 [(0, .ref (a 0)), (1, .int x1), (2, .int x2)] := hl
  have eR : (headSpec wsX5_grow rmX5_grow).room = rmX5_grow := rfl
  rw [eR]
  have rt : ∀ (v : Int32) (t : St) (pc : Nat) (H : Heap) (locs : List Loc) (ls : Array Slot), decode cX5_grow pc = .ok (.ireturn, 1) → some (v, t) = some (r, σ2) → zz (dC, dI) 30 a (wdC cI cZ a t) s.heap H locs → W p l e rmX5_grow s m args below meth c H locs 0 0 (MQ below (Qzi (dC, dI) 30 a (wdC cI cZ a σ2) sz r) args s 0 0 (aN 30 a sz)) (F0 m pc ls [.int v]) := by
    intro v t pc H locs ls hd h hz
    cases h
    exact ziret hsz hx hb hr hlocks hz hd
  generalize (MQ below (Qzi (dC, dI) 30 a (wdC cI cZ a σ2) sz r) args s 0 0 (aN 30 a sz)) = Q at rt ⊢
  unfold fX5_grow at h
  refine lv_aload_n hx hb dX5_grow_0 rfl (lv_at hl 0 rfl) ?_
  refine va_get (v := .ref (a 7)) hx hb hts inX5_grow_X5 hown hKK.1 hz.1 0 rfl rfl 2 (by decide) (hts _ (List.mem_of_getElem? (i := 1) rfl)) (fun _ h9 => h9) rfl dX5_grow_1 ?_
  refine lv_iload_n hx hb dX5_grow_4 rfl (lv_at hl 1 rfl) ?_
  obtain ⟨r1, e3, h⟩ := bd1_e h
  refine zcallVi (As := [.int x1]) (rest := []) CF hKK (KX0_has_p (dC := dC) (dI := dI) (cI := cI) (cZ := cZ) (a := a) hok e3) (cwV 1 hts gX5_grow_X0_has rfl rfl rfl cdX0_has ⟨Nat.le_of_ble_eq_true rfl, Nat.le_of_ble_eq_true rfl⟩) 7 0 rfl rfl hz rfl hl.1 rfl (Nat.le_of_ble_eq_true rfl) dX5_grow_5 ⟨Nat.le_refl _, Nat.le_refl _⟩ (fun H locs hz => ?_)
  refine lv_if_ne (tgt := 15) hx hb dX5_grow_8 (by decide) (fun c4 => ?_) (fun c4 => ?_)
  · replace h := ite_f c4 h
    refine lv_iload_n hx hb dX5_grow_15 rfl (lv_at hl 2 rfl) ?_
    refine lv_iconst (v := (1 : Int32)) hx hb dX5_grow_16 (by decide) ?_
    refine lv_icmp_lt (tgt := 26) hx hb dX5_grow_17 (by decide) (fun c5 => ?_) (fun c5 => ?_)
    · replace h := ite_t c5 h
      refine lv_sipush (v := (-1002 : Int32)) hx hb dX5_grow_26 (by decide) ?_
      exact rt (-1002 : Int32) σ 29 _ _ _ dX5_grow_29 h hz
    · replace h := ite_f c5 h
      refine lv_iload_n hx hb dX5_grow_20 rfl (lv_at hl 2 rfl) ?_
      refine lv_bipush (v := (40 : Int32)) hx hb dX5_grow_21 (by decide) ?_
      refine lv_icmp_le (tgt := 30) hx hb dX5_grow_23 (by decide) (fun c6 => ?_) (fun c6 => ?_)
      · replace h := ite_t c6 h
        refine lv_aload_n hx hb dX5_grow_30 rfl (lv_at hl 0 rfl) ?_
        refine va_get (v := .ref (a 7)) hx hb hts inX5_grow_X5 hown hKK.1 hz.1 0 rfl rfl 2 (by decide) (hts _ (List.mem_of_getElem? (i := 1) rfl)) (fun _ h9 => h9) rfl dX5_grow_31 ?_
        refine lv_iload_n hx hb dX5_grow_34 rfl (lv_at hl 1 rfl) ?_
        obtain ⟨r7, e9, h⟩ := bd1_e h
        refine zcallVi (As := [.int x1]) (rest := []) CF hKK (KX0_kindOf_p (dC := dC) (dI := dI) (cI := cI) (cZ := cZ) (a := a) hok e9) (cwV 1 hts gX5_grow_X0_kindOf rfl rfl rfl cdX0_kindOf ⟨Nat.le_of_ble_eq_true rfl, Nat.le_of_ble_eq_true rfl⟩) 7 0 rfl rfl hz rfl hl.1 rfl (Nat.le_of_ble_eq_true rfl) dX5_grow_35 ⟨Nat.le_refl _, Nat.le_refl _⟩ (fun H locs hz => ?_)
        refine lv_if_eq (tgt := 45) hx hb dX5_grow_38 (by decide) (fun c10 => ?_) (fun c10 => ?_)
        · replace h := ite_t c10 h
          refine lv_aload_n hx hb dX5_grow_45 rfl (lv_at hl 0 rfl) ?_
          refine va_get (v := .ref (a 7)) hx hb hts inX5_grow_X5 hown hKK.1 hz.1 0 rfl rfl 2 (by decide) (hts _ (List.mem_of_getElem? (i := 1) rfl)) (fun _ h9 => h9) rfl dX5_grow_46 ?_
          refine lv_iload_n hx hb dX5_grow_49 rfl (lv_at hl 1 rfl) ?_
          obtain ⟨r11, e13, h⟩ := bd1_e h
          refine zcallVi (As := [.int x1]) (rest := []) CF hKK (KX0_toldOf_p (dC := dC) (dI := dI) (cI := cI) (cZ := cZ) (a := a) hok e13) (cwV 1 hts gX5_grow_X0_toldOf rfl rfl rfl cdX0_toldOf ⟨Nat.le_of_ble_eq_true rfl, Nat.le_of_ble_eq_true rfl⟩) 7 0 rfl rfl hz rfl hl.1 rfl (Nat.le_of_ble_eq_true rfl) dX5_grow_50 ⟨Nat.le_refl _, Nat.le_refl _⟩ (fun H locs hz => ?_)
          refine lv_istore_n (lv' := [(3, .int r11), (0, .ref (a 0)), (1, .int x1), (2, .int x2)]) hx hb dX5_grow_53 rfl hl (by decide) rfl (fun ls hl => ?_)
          refine lv_aload_n hx hb dX5_grow_54 rfl (lv_at hl 1 rfl) ?_
          refine va_get (v := .ref (a 7)) hx hb hts inX5_grow_X5 hown hKK.1 hz.1 0 rfl rfl 2 (by decide) (hts _ (List.mem_of_getElem? (i := 1) rfl)) (fun _ h9 => h9) rfl dX5_grow_55 ?_
          refine lv_iload_n hx hb dX5_grow_58 rfl (lv_at hl 2 rfl) ?_
          refine lv_iload_n hx hb dX5_grow_59 rfl (lv_at hl 3 rfl) ?_
          obtain ⟨s15, e16, h⟩ := bd1_e h
          refine zcallVv (As := [.int x1, .int x2]) (rest := []) CF hKK (KX0_tell_p (dC := dC) (dI := dI) (cI := cI) (cZ := cZ) (a := a) hok e16) (cwV 2 hts gX5_grow_X0_tell rfl rfl rfl cdX0_tell ⟨Nat.le_of_ble_eq_true rfl, Nat.le_of_ble_eq_true rfl⟩) 7 0 rfl rfl hz rfl hl.1 rfl (Nat.le_of_ble_eq_true rfl) dX5_grow_60 ⟨Nat.le_refl _, Nat.le_refl _⟩ (fun H locs hz => ?_)
          refine lv_aload_n hx hb dX5_grow_63 rfl (lv_at hl 1 rfl) ?_
          refine lv_dup hx hb dX5_grow_64 rfl ?_
          refine va_get (v := .int (s15 41 0)) hx hb hts inX5_grow_X5 hown hKK.1 hz.1 0 rfl rfl 6 (by decide) (hts _ (List.mem_of_getElem? (i := 2) rfl)) (fun _ h9 => h9) rfl dX5_grow_65 ?_
          refine lv_iconst (v := (1 : Int32)) hx hb dX5_grow_68 (by decide) ?_
          refine lv_iadd hx hb dX5_grow_69 ?_
          refine zput (ty := .int) (w' := wdC cI cZ a (si s15 41 ((s15 41 0) + (1 : Int32)))) hx hb hts inX5_grow_X5 tyX5 tyX5_ok nmX5 hown hKK hok wkC hz 0 rfl rfl 6 (by decide) (hts _ (List.mem_of_getElem? (i := 2) rfl)) (fun _ h9 => h9) rfl rfl rfl rfl (Nat.le_of_ble_eq_true rfl) setCi_41 dX5_grow_70 (fun H locs hz => ?_)
          refine lv_aload_n hx hb dX5_grow_73 rfl (lv_at hl 1 rfl) ?_
          refine va_get (v := .ref (a 11)) hx hb hts inX5_grow_X5 hown hKK.1 hz.1 0 rfl rfl 4 (by decide) (hts _ (List.mem_of_getElem? (i := 3) rfl)) (fun _ h9 => h9) rfl dX5_grow_74 ?_
          obtain ⟨s18, e19, h⟩ := bd1_e h
          refine zcallVv (As := []) (rest := []) CF hKK (KX2_placeAll (dC := dC) (dI := dI) (cI := cI) (cZ := cZ) (a := a) hok e19) (cwV 0 hts gX5_grow_X2_placeAll rfl rfl rfl cdX2_placeAll ⟨Nat.le_of_ble_eq_true rfl, Nat.le_of_ble_eq_true rfl⟩) 11 2 rfl rfl hz rfl hl.1 rfl (Nat.le_of_ble_eq_true rfl) dX5_grow_77 ⟨Nat.le_refl _, Nat.le_refl _⟩ (fun H locs hz => ?_)
          refine lv_iload_n hx hb dX5_grow_80 rfl (lv_at hl 0 rfl) ?_
          exact rt r11 s18 81 _ _ _ dX5_grow_81 h hz
        · replace h := ite_f c10 h
          refine lv_sipush (v := (-1003 : Int32)) hx hb dX5_grow_41 (by decide) ?_
          exact rt (-1003 : Int32) σ 44 _ _ _ dX5_grow_44 h hz
      · replace h := ite_f c6 h
        refine lv_sipush (v := (-1002 : Int32)) hx hb dX5_grow_26 (by decide) ?_
        exact rt (-1002 : Int32) σ 29 _ _ _ dX5_grow_29 h hz
  · replace h := ite_t c4 h
    refine lv_sipush (v := (-1001 : Int32)) hx hb dX5_grow_11 (by decide) ?_
    exact rt (-1001 : Int32) σ 14 _ _ _ dX5_grow_14 h hz
def fX5_item (σ : St) (x1 : Int32) (x2 : Int32) : Option (Int32) :=
  (bd1 (fX0_has_p σ x1) fun r1 => (if r1 = 0 then (some (-1001 : Int32)) else ((if x2 = (0 : Int32) then ((bd1 (fX0_kindOf_p σ x1) fun r6 => some r6)) else (if x2 = (1 : Int32) then ((bd1 (fX0_toldOf_p σ x1) fun r10 => some r10)) else (if x2 = (2 : Int32) then ((bd1 (fX2_addressOf σ x1) fun r14 => some r14)) else (if x2 = (3 : Int32) then ((bd1 (fX2_sizeOf σ x1) fun r18 => some r18)) else (if x2 = (4 : Int32) then ((bd1 (fX2_isLong σ x1) fun r22 => (if r22 = 0 then (some (0 : Int32)) else (some (1 : Int32))))) else (if x2 = (5 : Int32) then ((bd1 (fX2_aimOf σ x1) fun r27 => some r27)) else some (-1002 : Int32))))))))))
abbrev rmX5_item : Room := { frames := 2, cells := 0, slots := 0, locals := 42 }
set_option maxHeartbeats 4000000 in
set_option maxRecDepth 100000 in
theorem KX5_item {l : Launch} {dC : Nat → ClassId} {dI : Nat → Nat → Nat} {cI cZ : ClassId} {a : Nat → Nat} {σ : St} {x1 : Int32} {x2 : Int32} {r : Int32} (hok : okA 30 a) (h : fX5_item σ x1 x2 = some r) (sz : Nat) : Met l yX5_item wsX5_item rmX5_item (Pz (dC, dI) cI cZ (wdC cI cZ a σ) sz [.ref (a 0), .int x1, .int x2]) (Qzi (dC, dI) 30 a (wdC cI cZ a σ) sz r) 0 0 (aN 30 a sz) := by
  refine Met.ofW (cc := cX5_item) (maxL := 3) (ret := (some .int)) (by decide) rfl ?_
  intro p e s m args below meth c s₁ B hml hv
  obtain ⟨hav, hsz, hP, hKK⟩ := hv
  have hx := B.exec
  have hb := B.bytes
  have hr := B.returns
  have hts := atoms_spec (ws := wsX5_item) B.pre
  have hown : s.vm.findClass RX5 = some m.cls := findClass_of_methodNamed B.named
  have hlocks := B.notSynchronized
  have CF : CallFix p m c cX5_item 3 s args wsX5_item RX5 := ⟨hx, hb, hml, hown, hts⟩
  have hz : zz (dC, dI) 30 a (wdC cI cZ a σ) s.heap s.heap [] := ⟨hP, va_S.rf⟩
  have hl := lv_entry [.ref (a 0), .int x1, .int x2] (n := 3) (Nat.le_of_ble_eq_true rfl)
  have hen : entryFrame m args 3 = entryFrame m ([.ref (a 0), .int x1, .int x2] : List Value).toArray 3 := by rw [hav]
  rw [hen, lg_entry_eq]
  generalize (lg_sl [.ref (a 0), .int x1, .int x2] ++ List.replicate (3 - (lg_sl [.ref (a 0), .int x1, .int x2]).length) Slot.unset).toArray = ls at hl ⊢
  have hl : lv_has ls 3 [(0, .ref (a 0)), (1, .int x1), (2, .int x2)] := hl
  have eR : (headSpec wsX5_item rmX5_item).room = rmX5_item := rfl
  rw [eR]
  have rt : ∀ (v : Int32) (t : St) (pc : Nat) (H : Heap) (locs : List Loc) (ls : Array Slot), decode cX5_item pc = .ok (.ireturn, 1) → some v = some r → zz (dC, dI) 30 a (wdC cI cZ a σ) s.heap H locs → W p l e rmX5_item s m args below meth c H locs 0 0 (MQ below (Qzi (dC, dI) 30 a (wdC cI cZ a σ) sz r) args s 0 0 (aN 30 a sz)) (F0 m pc ls [.int v]) := by
    intro v t pc H locs ls hd h hz
    cases h
    exact ziret hsz hx hb hr hlocks hz hd
  generalize (MQ below (Qzi (dC, dI) 30 a (wdC cI cZ a σ) sz r) args s 0 0 (aN 30 a sz)) = Q at rt ⊢
  unfold fX5_item at h
  refine lv_aload_n hx hb dX5_item_0 rfl (lv_at hl 0 rfl) ?_
  refine va_get (v := .ref (a 7)) hx hb hts inX5_item_X5 hown hKK.1 hz.1 0 rfl rfl 2 (by decide) (hts _ (List.mem_of_getElem? (i := 1) rfl)) (fun _ h9 => h9) rfl dX5_item_1 ?_
  refine lv_iload_n hx hb dX5_item_4 rfl (lv_at hl 1 rfl) ?_
  obtain ⟨r1, e3, h⟩ := bd1_e h
  refine zcallVi (As := [.int x1]) (rest := []) CF hKK (KX0_has_p (dC := dC) (dI := dI) (cI := cI) (cZ := cZ) (a := a) hok e3) (cwV 1 hts gX5_item_X0_has rfl rfl rfl cdX0_has ⟨Nat.le_of_ble_eq_true rfl, Nat.le_of_ble_eq_true rfl⟩) 7 0 rfl rfl hz rfl hl.1 rfl (Nat.le_of_ble_eq_true rfl) dX5_item_5 ⟨Nat.le_refl _, Nat.le_refl _⟩ (fun H locs hz => ?_)
  refine lv_if_ne (tgt := 15) hx hb dX5_item_8 (by decide) (fun c4 => ?_) (fun c4 => ?_)
  · replace h := ite_f c4 h
    refine lv_iload_n hx hb dX5_item_15 rfl (lv_at hl 2 rfl) ?_
    by_cases c5 : x2 = (0 : Int32)
    · replace h := ite_t c5 h
      refine lv_tableIn (tgt := 56) (off := 40) hx hb dX5_item_16 (by rw [c5]; decide) (by rw [c5]; decide) (by rw [c5]; rfl) (by decide) ?_
      refine lv_aload_n hx hb dX5_item_56 rfl (lv_at hl 0 rfl) ?_
      refine va_get (v := .ref (a 7)) hx hb hts inX5_item_X5 hown hKK.1 hz.1 0 rfl rfl 2 (by decide) (hts _ (List.mem_of_getElem? (i := 1) rfl)) (fun _ h9 => h9) rfl dX5_item_57 ?_
      refine lv_iload_n hx hb dX5_item_60 rfl (lv_at hl 1 rfl) ?_
      obtain ⟨r6, e8, h⟩ := bd1_e h
      refine zcallVi (As := [.int x1]) (rest := []) CF hKK (KX0_kindOf_p (dC := dC) (dI := dI) (cI := cI) (cZ := cZ) (a := a) hok e8) (cwV 1 hts gX5_item_X0_kindOf rfl rfl rfl cdX0_kindOf ⟨Nat.le_of_ble_eq_true rfl, Nat.le_of_ble_eq_true rfl⟩) 7 0 rfl rfl hz rfl hl.1 rfl (Nat.le_of_ble_eq_true rfl) dX5_item_61 ⟨Nat.le_refl _, Nat.le_refl _⟩ (fun H locs hz => ?_)
      exact rt r6 σ 64 _ _ _ dX5_item_64 h hz
    replace h := ite_f c5 h
    by_cases c9 : x2 = (1 : Int32)
    · replace h := ite_t c9 h
      refine lv_tableIn (tgt := 65) (off := 49) hx hb dX5_item_16 (by rw [c9]; decide) (by rw [c9]; decide) (by rw [c9]; rfl) (by decide) ?_
      refine lv_aload_n hx hb dX5_item_65 rfl (lv_at hl 0 rfl) ?_
      refine va_get (v := .ref (a 7)) hx hb hts inX5_item_X5 hown hKK.1 hz.1 0 rfl rfl 2 (by decide) (hts _ (List.mem_of_getElem? (i := 1) rfl)) (fun _ h9 => h9) rfl dX5_item_66 ?_
      refine lv_iload_n hx hb dX5_item_69 rfl (lv_at hl 1 rfl) ?_
      obtain ⟨r10, e12, h⟩ := bd1_e h
      refine zcallVi (As := [.int x1]) (rest := []) CF hKK (KX0_toldOf_p (dC := dC) (dI := dI) (cI := cI) (cZ := cZ) (a := a) hok e12) (cwV 1 hts gX5_item_X0_toldOf rfl rfl rfl cdX0_toldOf ⟨Nat.le_of_ble_eq_true rfl, Nat.le_of_ble_eq_true rfl⟩) 7 0 rfl rfl hz rfl hl.1 rfl (Nat.le_of_ble_eq_true rfl) dX5_item_70 ⟨Nat.le_refl _, Nat.le_refl _⟩ (fun H locs hz => ?_)
      exact rt r10 σ 73 _ _ _ dX5_item_73 h hz
    replace h := ite_f c9 h
    by_cases c13 : x2 = (2 : Int32)
    · replace h := ite_t c13 h
      refine lv_tableIn (tgt := 74) (off := 58) hx hb dX5_item_16 (by rw [c13]; decide) (by rw [c13]; decide) (by rw [c13]; rfl) (by decide) ?_
      refine lv_aload_n hx hb dX5_item_74 rfl (lv_at hl 0 rfl) ?_
      refine va_get (v := .ref (a 11)) hx hb hts inX5_item_X5 hown hKK.1 hz.1 0 rfl rfl 4 (by decide) (hts _ (List.mem_of_getElem? (i := 2) rfl)) (fun _ h9 => h9) rfl dX5_item_75 ?_
      refine lv_iload_n hx hb dX5_item_78 rfl (lv_at hl 1 rfl) ?_
      obtain ⟨r14, e16, h⟩ := bd1_e h
      refine zcallVi (As := [.int x1]) (rest := []) CF hKK (KX2_addressOf (dC := dC) (dI := dI) (cI := cI) (cZ := cZ) (a := a) hok e16) (cwV 1 hts gX5_item_X2_addressOf rfl rfl rfl cdX2_addressOf ⟨Nat.le_of_ble_eq_true rfl, Nat.le_of_ble_eq_true rfl⟩) 11 2 rfl rfl hz rfl hl.1 rfl (Nat.le_of_ble_eq_true rfl) dX5_item_79 ⟨Nat.le_refl _, Nat.le_refl _⟩ (fun H locs hz => ?_)
      exact rt r14 σ 82 _ _ _ dX5_item_82 h hz
    replace h := ite_f c13 h
    by_cases c17 : x2 = (3 : Int32)
    · replace h := ite_t c17 h
      refine lv_tableIn (tgt := 83) (off := 67) hx hb dX5_item_16 (by rw [c17]; decide) (by rw [c17]; decide) (by rw [c17]; rfl) (by decide) ?_
      refine lv_aload_n hx hb dX5_item_83 rfl (lv_at hl 0 rfl) ?_
      refine va_get (v := .ref (a 11)) hx hb hts inX5_item_X5 hown hKK.1 hz.1 0 rfl rfl 4 (by decide) (hts _ (List.mem_of_getElem? (i := 2) rfl)) (fun _ h9 => h9) rfl dX5_item_84 ?_
      refine lv_iload_n hx hb dX5_item_87 rfl (lv_at hl 1 rfl) ?_
      obtain ⟨r18, e20, h⟩ := bd1_e h
      refine zcallVi (As := [.int x1]) (rest := []) CF hKK (KX2_sizeOf (dC := dC) (dI := dI) (cI := cI) (cZ := cZ) (a := a) hok e20) (cwV 1 hts gX5_item_X2_sizeOf rfl rfl rfl cdX2_sizeOf ⟨Nat.le_of_ble_eq_true rfl, Nat.le_of_ble_eq_true rfl⟩) 11 2 rfl rfl hz rfl hl.1 rfl (Nat.le_of_ble_eq_true rfl) dX5_item_88 ⟨Nat.le_refl _, Nat.le_refl _⟩ (fun H locs hz => ?_)
      exact rt r18 σ 91 _ _ _ dX5_item_91 h hz
    replace h := ite_f c17 h
    by_cases c21 : x2 = (4 : Int32)
    · replace h := ite_t c21 h
      refine lv_tableIn (tgt := 92) (off := 76) hx hb dX5_item_16 (by rw [c21]; decide) (by rw [c21]; decide) (by rw [c21]; rfl) (by decide) ?_
      refine lv_aload_n hx hb dX5_item_92 rfl (lv_at hl 0 rfl) ?_
      refine va_get (v := .ref (a 11)) hx hb hts inX5_item_X5 hown hKK.1 hz.1 0 rfl rfl 4 (by decide) (hts _ (List.mem_of_getElem? (i := 2) rfl)) (fun _ h9 => h9) rfl dX5_item_93 ?_
      refine lv_iload_n hx hb dX5_item_96 rfl (lv_at hl 1 rfl) ?_
      obtain ⟨r22, e24, h⟩ := bd1_e h
      refine zcallVi (As := [.int x1]) (rest := []) CF hKK (KX2_isLong (dC := dC) (dI := dI) (cI := cI) (cZ := cZ) (a := a) hok e24) (cwV 1 hts gX5_item_X2_isLong rfl rfl rfl cdX2_isLong ⟨Nat.le_of_ble_eq_true rfl, Nat.le_of_ble_eq_true rfl⟩) 11 2 rfl rfl hz rfl hl.1 rfl (Nat.le_of_ble_eq_true rfl) dX5_item_97 ⟨Nat.le_refl _, Nat.le_refl _⟩ (fun H locs hz => ?_)
      refine lv_if_eq (tgt := 107) hx hb dX5_item_100 (by decide) (fun c25 => ?_) (fun c25 => ?_)
      · replace h := ite_t c25 h
        refine lv_iconst (v := (0 : Int32)) hx hb dX5_item_107 (by decide) ?_
        exact rt (0 : Int32) σ 108 _ _ _ dX5_item_108 h hz
      · replace h := ite_f c25 h
        refine lv_iconst (v := (1 : Int32)) hx hb dX5_item_103 (by decide) ?_
        refine lv_goto (tgt := 108) hx hb dX5_item_104 (by decide) ?_
        exact rt (1 : Int32) σ 108 _ _ _ dX5_item_108 h hz
    replace h := ite_f c21 h
    by_cases c26 : x2 = (5 : Int32)
    · replace h := ite_t c26 h
      refine lv_tableIn (tgt := 109) (off := 93) hx hb dX5_item_16 (by rw [c26]; decide) (by rw [c26]; decide) (by rw [c26]; rfl) (by decide) ?_
      refine lv_aload_n hx hb dX5_item_109 rfl (lv_at hl 0 rfl) ?_
      refine va_get (v := .ref (a 11)) hx hb hts inX5_item_X5 hown hKK.1 hz.1 0 rfl rfl 4 (by decide) (hts _ (List.mem_of_getElem? (i := 2) rfl)) (fun _ h9 => h9) rfl dX5_item_110 ?_
      refine lv_iload_n hx hb dX5_item_113 rfl (lv_at hl 1 rfl) ?_
      obtain ⟨r27, e29, h⟩ := bd1_e h
      refine zcallVi (As := [.int x1]) (rest := []) CF hKK (KX2_aimOf (dC := dC) (dI := dI) (cI := cI) (cZ := cZ) (a := a) hok e29) (cwV 1 hts gX5_item_X2_aimOf rfl rfl rfl cdX2_aimOf ⟨Nat.le_of_ble_eq_true rfl, Nat.le_of_ble_eq_true rfl⟩) 11 2 rfl rfl hz rfl hl.1 rfl (Nat.le_of_ble_eq_true rfl) dX5_item_114 ⟨Nat.le_refl _, Nat.le_refl _⟩ (fun H locs hz => ?_)
      exact rt r27 σ 117 _ _ _ dX5_item_117 h hz
    replace h := ite_f c26 h
    refine lv_tableOut (tgt := 118) hx hb dX5_item_16 (by have := lv_neT c5 (a := 0) rfl; have := lv_neT c9 (a := 1) rfl; have := lv_neT c13 (a := 2) rfl; have := lv_neT c17 (a := 3) rfl; have := lv_neT c21 (a := 4) rfl; have := lv_neT c26 (a := 5) rfl; omega) (by decide) ?_
    refine lv_sipush (v := (-1002 : Int32)) hx hb dX5_item_118 (by decide) ?_
    exact rt (-1002 : Int32) σ 121 _ _ _ dX5_item_121 h hz
  · replace h := ite_t c4 h
    refine lv_sipush (v := (-1001 : Int32)) hx hb dX5_item_11 (by decide) ?_
    exact rt (-1001 : Int32) σ 14 _ _ _ dX5_item_14 h hz
def fX5_island (σ : St) (x1 : Int32) (x2 : Int32) : Option (Int32) :=
  (bd1 (fX4_has_i σ x1) fun r1 => (if r1 = 0 then (some (-1001 : Int32)) else ((if x2 = (0 : Int32) then ((bd1 (fX4_nameOf_i σ x1) fun r6 => some r6)) else (if x2 = (1 : Int32) then ((bd1 (fX4_returnOf_i σ x1) fun r10 => some r10)) else (if x2 = (2 : Int32) then ((bd1 (fX4_addressOf_i σ x1) fun r14 => some r14)) else (if x2 = (3 : Int32) then ((bd1 (fX2_islandAimOf σ x1) fun r18 => some r18)) else some (-1002 : Int32))))))))
abbrev rmX5_island : Room := { frames := 2, cells := 0, slots := 0, locals := 43 }
set_option maxHeartbeats 4000000 in
set_option maxRecDepth 100000 in
theorem KX5_island {l : Launch} {dC : Nat → ClassId} {dI : Nat → Nat → Nat} {cI cZ : ClassId} {a : Nat → Nat} {σ : St} {x1 : Int32} {x2 : Int32} {r : Int32} (hok : okA 30 a) (h : fX5_island σ x1 x2 = some r) (sz : Nat) : Met l yX5_island wsX5_island rmX5_island (Pz (dC, dI) cI cZ (wdC cI cZ a σ) sz [.ref (a 0), .int x1, .int x2]) (Qzi (dC, dI) 30 a (wdC cI cZ a σ) sz r) 0 0 (aN 30 a sz) := by
  refine Met.ofW (cc := cX5_island) (maxL := 4) (ret := (some .int)) (by decide) rfl ?_
  intro p e s m args below meth c s₁ B hml hv
  obtain ⟨hav, hsz, hP, hKK⟩ := hv
  have hx := B.exec
  have hb := B.bytes
  have hr := B.returns
  have hts := atoms_spec (ws := wsX5_island) B.pre
  have hown : s.vm.findClass RX5 = some m.cls := findClass_of_methodNamed B.named
  have hlocks := B.notSynchronized
  have CF : CallFix p m c cX5_island 4 s args wsX5_island RX5 := ⟨hx, hb, hml, hown, hts⟩
  have hz : zz (dC, dI) 30 a (wdC cI cZ a σ) s.heap s.heap [] := ⟨hP, va_S.rf⟩
  have hl := lv_entry [.ref (a 0), .int x1, .int x2] (n := 4) (Nat.le_of_ble_eq_true rfl)
  have hen : entryFrame m args 4 = entryFrame m ([.ref (a 0), .int x1, .int x2] : List Value).toArray 4 := by rw [hav]
  rw [hen, lg_entry_eq]
  generalize (lg_sl [.ref (a 0), .int x1, .int x2] ++ List.replicate (4 - (lg_sl [.ref (a 0), .int x1, .int x2]).length) Slot.unset).toArray = ls at hl ⊢
  have hl : lv_has ls 4 [(0, .ref (a 0)), (1, .int x1), (2, .int x2)] := hl
  have eR : (headSpec wsX5_island rmX5_island).room = rmX5_island := rfl
  rw [eR]
  have rt : ∀ (v : Int32) (t : St) (pc : Nat) (H : Heap) (locs : List Loc) (ls : Array Slot), decode cX5_island pc = .ok (.ireturn, 1) → some v = some r → zz (dC, dI) 30 a (wdC cI cZ a σ) s.heap H locs → W p l e rmX5_island s m args below meth c H locs 0 0 (MQ below (Qzi (dC, dI) 30 a (wdC cI cZ a σ) sz r) args s 0 0 (aN 30 a sz)) (F0 m pc ls [.int v]) := by
    intro v t pc H locs ls hd h hz
    cases h
    exact ziret hsz hx hb hr hlocks hz hd
  generalize (MQ below (Qzi (dC, dI) 30 a (wdC cI cZ a σ) sz r) args s 0 0 (aN 30 a sz)) = Q at rt ⊢
  unfold fX5_island at h
  refine lv_aload_n hx hb dX5_island_0 rfl (lv_at hl 0 rfl) ?_
  refine va_get (v := .ref (a 11)) hx hb hts inX5_island_X5 hown hKK.1 hz.1 0 rfl rfl 4 (by decide) (hts _ (List.mem_of_getElem? (i := 1) rfl)) (fun _ h9 => h9) rfl dX5_island_1 ?_
  refine va_getN (v := .ref (a 12)) hx hb hts inX5_island_X2 hown hKK.1 hz.1 11 rfl rfl 2 (by decide) (va_Nw.use rfl hKK.2.2.2.2.2.2.1) (fun _ h9 => h9) rfl dX5_island_4 ?_
  refine lv_astore_n (lv' := [(3, .ref (a 12)), (0, .ref (a 0)), (1, .int x1), (2, .int x2)]) hx hb dX5_island_7 rfl hl (by decide) rfl (fun ls hl => ?_)
  refine lv_aload_n hx hb dX5_island_8 rfl (lv_at hl 0 rfl) ?_
  refine lv_iload_n hx hb dX5_island_9 rfl (lv_at hl 2 rfl) ?_
  obtain ⟨r1, e3, h⟩ := bd1_e h
  refine zcallVi (As := [.int x1]) (rest := []) CF hKK (KX4_has_i (dC := dC) (dI := dI) (cI := cI) (cZ := cZ) (a := a) hok e3) (cwV 1 hts gX5_island_X4_has rfl rfl rfl cdX4_has ⟨Nat.le_of_ble_eq_true rfl, Nat.le_of_ble_eq_true rfl⟩) 12 4 rfl rfl hz rfl hl.1 rfl (Nat.le_of_ble_eq_true rfl) dX5_island_10 ⟨Nat.le_refl _, Nat.le_refl _⟩ (fun H locs hz => ?_)
  refine lv_if_ne (tgt := 20) hx hb dX5_island_13 (by decide) (fun c4 => ?_) (fun c4 => ?_)
  · replace h := ite_f c4 h
    refine lv_iload_n hx hb dX5_island_20 rfl (lv_at hl 3 rfl) ?_
    by_cases c5 : x2 = (0 : Int32)
    · replace h := ite_t c5 h
      refine lv_tableIn (tgt := 52) (off := 31) hx hb dX5_island_21 (by rw [c5]; decide) (by rw [c5]; decide) (by rw [c5]; rfl) (by decide) ?_
      refine lv_aload_n hx hb dX5_island_52 rfl (lv_at hl 0 rfl) ?_
      refine lv_iload_n hx hb dX5_island_53 rfl (lv_at hl 2 rfl) ?_
      obtain ⟨r6, e8, h⟩ := bd1_e h
      refine zcallVi (As := [.int x1]) (rest := []) CF hKK (KX4_nameOf_i (dC := dC) (dI := dI) (cI := cI) (cZ := cZ) (a := a) hok e8) (cwV 1 hts gX5_island_X4_nameOf rfl rfl rfl cdX4_nameOf ⟨Nat.le_of_ble_eq_true rfl, Nat.le_of_ble_eq_true rfl⟩) 12 4 rfl rfl hz rfl hl.1 rfl (Nat.le_of_ble_eq_true rfl) dX5_island_54 ⟨Nat.le_refl _, Nat.le_refl _⟩ (fun H locs hz => ?_)
      exact rt r6 σ 57 _ _ _ dX5_island_57 h hz
    replace h := ite_f c5 h
    by_cases c9 : x2 = (1 : Int32)
    · replace h := ite_t c9 h
      refine lv_tableIn (tgt := 58) (off := 37) hx hb dX5_island_21 (by rw [c9]; decide) (by rw [c9]; decide) (by rw [c9]; rfl) (by decide) ?_
      refine lv_aload_n hx hb dX5_island_58 rfl (lv_at hl 0 rfl) ?_
      refine lv_iload_n hx hb dX5_island_59 rfl (lv_at hl 2 rfl) ?_
      obtain ⟨r10, e12, h⟩ := bd1_e h
      refine zcallVi (As := [.int x1]) (rest := []) CF hKK (KX4_returnOf_i (dC := dC) (dI := dI) (cI := cI) (cZ := cZ) (a := a) hok e12) (cwV 1 hts gX5_island_X4_returnOf rfl rfl rfl cdX4_returnOf ⟨Nat.le_of_ble_eq_true rfl, Nat.le_of_ble_eq_true rfl⟩) 12 4 rfl rfl hz rfl hl.1 rfl (Nat.le_of_ble_eq_true rfl) dX5_island_60 ⟨Nat.le_refl _, Nat.le_refl _⟩ (fun H locs hz => ?_)
      exact rt r10 σ 63 _ _ _ dX5_island_63 h hz
    replace h := ite_f c9 h
    by_cases c13 : x2 = (2 : Int32)
    · replace h := ite_t c13 h
      refine lv_tableIn (tgt := 64) (off := 43) hx hb dX5_island_21 (by rw [c13]; decide) (by rw [c13]; decide) (by rw [c13]; rfl) (by decide) ?_
      refine lv_aload_n hx hb dX5_island_64 rfl (lv_at hl 0 rfl) ?_
      refine lv_iload_n hx hb dX5_island_65 rfl (lv_at hl 2 rfl) ?_
      obtain ⟨r14, e16, h⟩ := bd1_e h
      refine zcallVi (As := [.int x1]) (rest := []) CF hKK (KX4_addressOf_i (dC := dC) (dI := dI) (cI := cI) (cZ := cZ) (a := a) hok e16) (cwV 1 hts gX5_island_X4_addressOf rfl rfl rfl cdX4_addressOf ⟨Nat.le_of_ble_eq_true rfl, Nat.le_of_ble_eq_true rfl⟩) 12 4 rfl rfl hz rfl hl.1 rfl (Nat.le_of_ble_eq_true rfl) dX5_island_66 ⟨Nat.le_refl _, Nat.le_refl _⟩ (fun H locs hz => ?_)
      exact rt r14 σ 69 _ _ _ dX5_island_69 h hz
    replace h := ite_f c13 h
    by_cases c17 : x2 = (3 : Int32)
    · replace h := ite_t c17 h
      refine lv_tableIn (tgt := 70) (off := 49) hx hb dX5_island_21 (by rw [c17]; decide) (by rw [c17]; decide) (by rw [c17]; rfl) (by decide) ?_
      refine lv_aload_n hx hb dX5_island_70 rfl (lv_at hl 1 rfl) ?_
      refine va_get (v := .ref (a 11)) hx hb hts inX5_island_X5 hown hKK.1 hz.1 0 rfl rfl 4 (by decide) (hts _ (List.mem_of_getElem? (i := 1) rfl)) (fun _ h9 => h9) rfl dX5_island_71 ?_
      refine lv_iload_n hx hb dX5_island_74 rfl (lv_at hl 2 rfl) ?_
      obtain ⟨r18, e20, h⟩ := bd1_e h
      refine zcallVi (As := [.int x1]) (rest := []) CF hKK (KX2_islandAimOf (dC := dC) (dI := dI) (cI := cI) (cZ := cZ) (a := a) hok e20) (cwV 1 hts gX5_island_X2_islandAimOf rfl rfl rfl cdX2_islandAimOf ⟨Nat.le_of_ble_eq_true rfl, Nat.le_of_ble_eq_true rfl⟩) 11 2 rfl rfl hz rfl hl.1 rfl (Nat.le_of_ble_eq_true rfl) dX5_island_75 ⟨Nat.le_refl _, Nat.le_refl _⟩ (fun H locs hz => ?_)
      exact rt r18 σ 78 _ _ _ dX5_island_78 h hz
    replace h := ite_f c17 h
    refine lv_tableOut (tgt := 79) hx hb dX5_island_21 (by have := lv_neT c5 (a := 0) rfl; have := lv_neT c9 (a := 1) rfl; have := lv_neT c13 (a := 2) rfl; have := lv_neT c17 (a := 3) rfl; omega) (by decide) ?_
    refine lv_sipush (v := (-1002 : Int32)) hx hb dX5_island_79 (by decide) ?_
    exact rt (-1002 : Int32) σ 82 _ _ _ dX5_island_82 h hz
  · replace h := ite_t c4 h
    refine lv_sipush (v := (-1001 : Int32)) hx hb dX5_island_16 (by decide) ?_
    exact rt (-1001 : Int32) σ 19 _ _ _ dX5_island_19 h hz
def fX5_constant (σ : St) (x1 : Int32) (x2 : Int32) : Option (Int32) :=
  (bd1 (fX4_has_c σ x1) fun r1 => (if r1 = 0 then (some (-1001 : Int32)) else ((if x2 = (0 : Int32) then ((bd1 (fX4_nameOf_c σ x1) fun r6 => some r6)) else (if x2 = (1 : Int32) then ((bd1 (fX4_returnOf_c σ x1) fun r10 => some r10)) else (if x2 = (2 : Int32) then ((bd1 (fX4_addressOf_c σ x1) fun r14 => some r14)) else (if x2 = (3 : Int32) then ((bd1 (fX2_loadsOf σ x1) fun r18 => some r18)) else some (-1002 : Int32))))))))
abbrev rmX5_constant : Room := { frames := 3, cells := 0, slots := 0, locals := 67 }
set_option maxHeartbeats 4000000 in
set_option maxRecDepth 100000 in
theorem KX5_constant {l : Launch} {dC : Nat → ClassId} {dI : Nat → Nat → Nat} {cI cZ : ClassId} {a : Nat → Nat} {σ : St} {x1 : Int32} {x2 : Int32} {r : Int32} (hok : okA 30 a) (h : fX5_constant σ x1 x2 = some r) (sz : Nat) : Met l yX5_constant wsX5_constant rmX5_constant (Pz (dC, dI) cI cZ (wdC cI cZ a σ) sz [.ref (a 0), .int x1, .int x2]) (Qzi (dC, dI) 30 a (wdC cI cZ a σ) sz r) 0 0 (aN 30 a sz) := by
  refine Met.ofW (cc := cX5_constant) (maxL := 4) (ret := (some .int)) (by decide) rfl ?_
  intro p e s m args below meth c s₁ B hml hv
  obtain ⟨hav, hsz, hP, hKK⟩ := hv
  have hx := B.exec
  have hb := B.bytes
  have hr := B.returns
  have hts := atoms_spec (ws := wsX5_constant) B.pre
  have hown : s.vm.findClass RX5 = some m.cls := findClass_of_methodNamed B.named
  have hlocks := B.notSynchronized
  have CF : CallFix p m c cX5_constant 4 s args wsX5_constant RX5 := ⟨hx, hb, hml, hown, hts⟩
  have hz : zz (dC, dI) 30 a (wdC cI cZ a σ) s.heap s.heap [] := ⟨hP, va_S.rf⟩
  have hl := lv_entry [.ref (a 0), .int x1, .int x2] (n := 4) (Nat.le_of_ble_eq_true rfl)
  have hen : entryFrame m args 4 = entryFrame m ([.ref (a 0), .int x1, .int x2] : List Value).toArray 4 := by rw [hav]
  rw [hen, lg_entry_eq]
  generalize (lg_sl [.ref (a 0), .int x1, .int x2] ++ List.replicate (4 - (lg_sl [.ref (a 0), .int x1, .int x2]).length) Slot.unset).toArray = ls at hl ⊢
  have hl : lv_has ls 4 [(0, .ref (a 0)), (1, .int x1), (2, .int x2)] := hl
  have eR : (headSpec wsX5_constant rmX5_constant).room = rmX5_constant := rfl
  rw [eR]
  have rt : ∀ (v : Int32) (t : St) (pc : Nat) (H : Heap) (locs : List Loc) (ls : Array Slot), decode cX5_constant pc = .ok (.ireturn, 1) → some v = some r → zz (dC, dI) 30 a (wdC cI cZ a σ) s.heap H locs → W p l e rmX5_constant s m args below meth c H locs 0 0 (MQ below (Qzi (dC, dI) 30 a (wdC cI cZ a σ) sz r) args s 0 0 (aN 30 a sz)) (F0 m pc ls [.int v]) := by
    intro v t pc H locs ls hd h hz
    cases h
    exact ziret hsz hx hb hr hlocks hz hd
  generalize (MQ below (Qzi (dC, dI) 30 a (wdC cI cZ a σ) sz r) args s 0 0 (aN 30 a sz)) = Q at rt ⊢
  unfold fX5_constant at h
  refine lv_aload_n hx hb dX5_constant_0 rfl (lv_at hl 0 rfl) ?_
  refine va_get (v := .ref (a 11)) hx hb hts inX5_constant_X5 hown hKK.1 hz.1 0 rfl rfl 4 (by decide) (hts _ (List.mem_of_getElem? (i := 1) rfl)) (fun _ h9 => h9) rfl dX5_constant_1 ?_
  refine va_getN (v := .ref (a 18)) hx hb hts inX5_constant_X2 hown hKK.1 hz.1 11 rfl rfl 3 (by decide) (va_Nw.use rfl hKK.2.2.2.2.2.2.2.1) (fun _ h9 => h9) rfl dX5_constant_4 ?_
  refine lv_astore_n (lv' := [(3, .ref (a 18)), (0, .ref (a 0)), (1, .int x1), (2, .int x2)]) hx hb dX5_constant_7 rfl hl (by decide) rfl (fun ls hl => ?_)
  refine lv_aload_n hx hb dX5_constant_8 rfl (lv_at hl 0 rfl) ?_
  refine lv_iload_n hx hb dX5_constant_9 rfl (lv_at hl 2 rfl) ?_
  obtain ⟨r1, e3, h⟩ := bd1_e h
  refine zcallVi (As := [.int x1]) (rest := []) CF hKK (KX4_has_c (dC := dC) (dI := dI) (cI := cI) (cZ := cZ) (a := a) hok e3) (cwV 1 hts gX5_constant_X4_has rfl rfl rfl cdX4_has ⟨Nat.le_of_ble_eq_true rfl, Nat.le_of_ble_eq_true rfl⟩) 18 4 rfl rfl hz rfl hl.1 rfl (Nat.le_of_ble_eq_true rfl) dX5_constant_10 ⟨Nat.le_refl _, Nat.le_refl _⟩ (fun H locs hz => ?_)
  refine lv_if_ne (tgt := 20) hx hb dX5_constant_13 (by decide) (fun c4 => ?_) (fun c4 => ?_)
  · replace h := ite_f c4 h
    refine lv_iload_n hx hb dX5_constant_20 rfl (lv_at hl 3 rfl) ?_
    by_cases c5 : x2 = (0 : Int32)
    · replace h := ite_t c5 h
      refine lv_tableIn (tgt := 52) (off := 31) hx hb dX5_constant_21 (by rw [c5]; decide) (by rw [c5]; decide) (by rw [c5]; rfl) (by decide) ?_
      refine lv_aload_n hx hb dX5_constant_52 rfl (lv_at hl 0 rfl) ?_
      refine lv_iload_n hx hb dX5_constant_53 rfl (lv_at hl 2 rfl) ?_
      obtain ⟨r6, e8, h⟩ := bd1_e h
      refine zcallVi (As := [.int x1]) (rest := []) CF hKK (KX4_nameOf_c (dC := dC) (dI := dI) (cI := cI) (cZ := cZ) (a := a) hok e8) (cwV 1 hts gX5_constant_X4_nameOf rfl rfl rfl cdX4_nameOf ⟨Nat.le_of_ble_eq_true rfl, Nat.le_of_ble_eq_true rfl⟩) 18 4 rfl rfl hz rfl hl.1 rfl (Nat.le_of_ble_eq_true rfl) dX5_constant_54 ⟨Nat.le_refl _, Nat.le_refl _⟩ (fun H locs hz => ?_)
      exact rt r6 σ 57 _ _ _ dX5_constant_57 h hz
    replace h := ite_f c5 h
    by_cases c9 : x2 = (1 : Int32)
    · replace h := ite_t c9 h
      refine lv_tableIn (tgt := 58) (off := 37) hx hb dX5_constant_21 (by rw [c9]; decide) (by rw [c9]; decide) (by rw [c9]; rfl) (by decide) ?_
      refine lv_aload_n hx hb dX5_constant_58 rfl (lv_at hl 0 rfl) ?_
      refine lv_iload_n hx hb dX5_constant_59 rfl (lv_at hl 2 rfl) ?_
      obtain ⟨r10, e12, h⟩ := bd1_e h
      refine zcallVi (As := [.int x1]) (rest := []) CF hKK (KX4_returnOf_c (dC := dC) (dI := dI) (cI := cI) (cZ := cZ) (a := a) hok e12) (cwV 1 hts gX5_constant_X4_returnOf rfl rfl rfl cdX4_returnOf ⟨Nat.le_of_ble_eq_true rfl, Nat.le_of_ble_eq_true rfl⟩) 18 4 rfl rfl hz rfl hl.1 rfl (Nat.le_of_ble_eq_true rfl) dX5_constant_60 ⟨Nat.le_refl _, Nat.le_refl _⟩ (fun H locs hz => ?_)
      exact rt r10 σ 63 _ _ _ dX5_constant_63 h hz
    replace h := ite_f c9 h
    by_cases c13 : x2 = (2 : Int32)
    · replace h := ite_t c13 h
      refine lv_tableIn (tgt := 64) (off := 43) hx hb dX5_constant_21 (by rw [c13]; decide) (by rw [c13]; decide) (by rw [c13]; rfl) (by decide) ?_
      refine lv_aload_n hx hb dX5_constant_64 rfl (lv_at hl 0 rfl) ?_
      refine lv_iload_n hx hb dX5_constant_65 rfl (lv_at hl 2 rfl) ?_
      obtain ⟨r14, e16, h⟩ := bd1_e h
      refine zcallVi (As := [.int x1]) (rest := []) CF hKK (KX4_addressOf_c (dC := dC) (dI := dI) (cI := cI) (cZ := cZ) (a := a) hok e16) (cwV 1 hts gX5_constant_X4_addressOf rfl rfl rfl cdX4_addressOf ⟨Nat.le_of_ble_eq_true rfl, Nat.le_of_ble_eq_true rfl⟩) 18 4 rfl rfl hz rfl hl.1 rfl (Nat.le_of_ble_eq_true rfl) dX5_constant_66 ⟨Nat.le_refl _, Nat.le_refl _⟩ (fun H locs hz => ?_)
      exact rt r14 σ 69 _ _ _ dX5_constant_69 h hz
    replace h := ite_f c13 h
    by_cases c17 : x2 = (3 : Int32)
    · replace h := ite_t c17 h
      refine lv_tableIn (tgt := 70) (off := 49) hx hb dX5_constant_21 (by rw [c17]; decide) (by rw [c17]; decide) (by rw [c17]; rfl) (by decide) ?_
      refine lv_aload_n hx hb dX5_constant_70 rfl (lv_at hl 1 rfl) ?_
      refine va_get (v := .ref (a 11)) hx hb hts inX5_constant_X5 hown hKK.1 hz.1 0 rfl rfl 4 (by decide) (hts _ (List.mem_of_getElem? (i := 1) rfl)) (fun _ h9 => h9) rfl dX5_constant_71 ?_
      refine lv_iload_n hx hb dX5_constant_74 rfl (lv_at hl 2 rfl) ?_
      obtain ⟨r18, e20, h⟩ := bd1_e h
      refine zcallVi (As := [.int x1]) (rest := []) CF hKK (KX2_loadsOf (dC := dC) (dI := dI) (cI := cI) (cZ := cZ) (a := a) hok e20) (cwV 1 hts gX5_constant_X2_loadsOf rfl rfl rfl cdX2_loadsOf ⟨Nat.le_of_ble_eq_true rfl, Nat.le_of_ble_eq_true rfl⟩) 11 2 rfl rfl hz rfl hl.1 rfl (Nat.le_of_ble_eq_true rfl) dX5_constant_75 ⟨Nat.le_refl _, Nat.le_refl _⟩ (fun H locs hz => ?_)
      exact rt r18 σ 78 _ _ _ dX5_constant_78 h hz
    replace h := ite_f c17 h
    refine lv_tableOut (tgt := 79) hx hb dX5_constant_21 (by have := lv_neT c5 (a := 0) rfl; have := lv_neT c9 (a := 1) rfl; have := lv_neT c13 (a := 2) rfl; have := lv_neT c17 (a := 3) rfl; omega) (by decide) ?_
    refine lv_sipush (v := (-1002 : Int32)) hx hb dX5_constant_79 (by decide) ?_
    exact rt (-1002 : Int32) σ 82 _ _ _ dX5_constant_82 h hz
  · replace h := ite_t c4 h
    refine lv_sipush (v := (-1001 : Int32)) hx hb dX5_constant_16 (by decide) ?_
    exact rt (-1001 : Int32) σ 19 _ _ _ dX5_constant_19 h hz
def fX5_hops (σ : St) (x1 : Int32) : Option (Int32) :=
  (bd1 (fX0_has_p σ x1) fun r1 => (if r1 = 0 then (some (-1001 : Int32)) else ((bd1 (fX0_kindOf_p σ x1) fun r5 => (if r5 = (2 : Int32) then ((bd1 (fX2_hopsFrom σ x1) fun r9 => some r9)) else (some (-1003 : Int32)))))))
abbrev rmX5_hops : Room := { frames := 4, cells := 0, slots := 0, locals := 98 }
set_option maxHeartbeats 4000000 in
set_option maxRecDepth 100000 in
theorem KX5_hops {l : Launch} {dC : Nat → ClassId} {dI : Nat → Nat → Nat} {cI cZ : ClassId} {a : Nat → Nat} {σ : St} {x1 : Int32} {r : Int32} (hok : okA 30 a) (h : fX5_hops σ x1 = some r) (sz : Nat) : Met l yX5_hops wsX5_hops rmX5_hops (Pz (dC, dI) cI cZ (wdC cI cZ a σ) sz [.ref (a 0), .int x1]) (Qzi (dC, dI) 30 a (wdC cI cZ a σ) sz r) 0 0 (aN 30 a sz) := by
  refine Met.ofW (cc := cX5_hops) (maxL := 2) (ret := (some .int)) (by decide) rfl ?_
  intro p e s m args below meth c s₁ B hml hv
  obtain ⟨hav, hsz, hP, hKK⟩ := hv
  have hx := B.exec
  have hb := B.bytes
  have hr := B.returns
  have hts := atoms_spec (ws := wsX5_hops) B.pre
  have hown : s.vm.findClass RX5 = some m.cls := findClass_of_methodNamed B.named
  have hlocks := B.notSynchronized
  have CF : CallFix p m c cX5_hops 2 s args wsX5_hops RX5 := ⟨hx, hb, hml, hown, hts⟩
  have hz : zz (dC, dI) 30 a (wdC cI cZ a σ) s.heap s.heap [] := ⟨hP, va_S.rf⟩
  have hl := lv_entry [.ref (a 0), .int x1] (n := 2) (Nat.le_of_ble_eq_true rfl)
  have hen : entryFrame m args 2 = entryFrame m ([.ref (a 0), .int x1] : List Value).toArray 2 := by rw [hav]
  rw [hen, lg_entry_eq]
  generalize (lg_sl [.ref (a 0), .int x1] ++ List.replicate (2 - (lg_sl [.ref (a 0), .int x1]).length) Slot.unset).toArray = ls at hl ⊢
  have hl : lv_has ls 2 [(0, .ref (a 0)), (1, .int x1)] := hl
  have eR : (headSpec wsX5_hops rmX5_hops).room = rmX5_hops := rfl
  rw [eR]
  have rt : ∀ (v : Int32) (t : St) (pc : Nat) (H : Heap) (locs : List Loc) (ls : Array Slot), decode cX5_hops pc = .ok (.ireturn, 1) → some v = some r → zz (dC, dI) 30 a (wdC cI cZ a σ) s.heap H locs → W p l e rmX5_hops s m args below meth c H locs 0 0 (MQ below (Qzi (dC, dI) 30 a (wdC cI cZ a σ) sz r) args s 0 0 (aN 30 a sz)) (F0 m pc ls [.int v]) := by
    intro v t pc H locs ls hd h hz
    cases h
    exact ziret hsz hx hb hr hlocks hz hd
  generalize (MQ below (Qzi (dC, dI) 30 a (wdC cI cZ a σ) sz r) args s 0 0 (aN 30 a sz)) = Q at rt ⊢
  unfold fX5_hops at h
  refine lv_aload_n hx hb dX5_hops_0 rfl (lv_at hl 0 rfl) ?_
  refine va_get (v := .ref (a 7)) hx hb hts inX5_hops_X5 hown hKK.1 hz.1 0 rfl rfl 2 (by decide) (hts _ (List.mem_of_getElem? (i := 1) rfl)) (fun _ h9 => h9) rfl dX5_hops_1 ?_
  refine lv_iload_n hx hb dX5_hops_4 rfl (lv_at hl 1 rfl) ?_
  obtain ⟨r1, e3, h⟩ := bd1_e h
  refine zcallVi (As := [.int x1]) (rest := []) CF hKK (KX0_has_p (dC := dC) (dI := dI) (cI := cI) (cZ := cZ) (a := a) hok e3) (cwV 1 hts gX5_hops_X0_has rfl rfl rfl cdX0_has ⟨Nat.le_of_ble_eq_true rfl, Nat.le_of_ble_eq_true rfl⟩) 7 0 rfl rfl hz rfl hl.1 rfl (Nat.le_of_ble_eq_true rfl) dX5_hops_5 ⟨Nat.le_refl _, Nat.le_refl _⟩ (fun H locs hz => ?_)
  refine lv_if_ne (tgt := 15) hx hb dX5_hops_8 (by decide) (fun c4 => ?_) (fun c4 => ?_)
  · replace h := ite_f c4 h
    refine lv_aload_n hx hb dX5_hops_15 rfl (lv_at hl 0 rfl) ?_
    refine va_get (v := .ref (a 7)) hx hb hts inX5_hops_X5 hown hKK.1 hz.1 0 rfl rfl 2 (by decide) (hts _ (List.mem_of_getElem? (i := 1) rfl)) (fun _ h9 => h9) rfl dX5_hops_16 ?_
    refine lv_iload_n hx hb dX5_hops_19 rfl (lv_at hl 1 rfl) ?_
    obtain ⟨r5, e7, h⟩ := bd1_e h
    refine zcallVi (As := [.int x1]) (rest := []) CF hKK (KX0_kindOf_p (dC := dC) (dI := dI) (cI := cI) (cZ := cZ) (a := a) hok e7) (cwV 1 hts gX5_hops_X0_kindOf rfl rfl rfl cdX0_kindOf ⟨Nat.le_of_ble_eq_true rfl, Nat.le_of_ble_eq_true rfl⟩) 7 0 rfl rfl hz rfl hl.1 rfl (Nat.le_of_ble_eq_true rfl) dX5_hops_20 ⟨Nat.le_refl _, Nat.le_refl _⟩ (fun H locs hz => ?_)
    refine lv_iconst (v := (2 : Int32)) hx hb dX5_hops_23 (by decide) ?_
    refine lv_icmp_eq (tgt := 31) hx hb dX5_hops_24 (by decide) (fun c8 => ?_) (fun c8 => ?_)
    · replace h := ite_t c8 h
      refine lv_aload_n hx hb dX5_hops_31 rfl (lv_at hl 0 rfl) ?_
      refine va_get (v := .ref (a 11)) hx hb hts inX5_hops_X5 hown hKK.1 hz.1 0 rfl rfl 4 (by decide) (hts _ (List.mem_of_getElem? (i := 2) rfl)) (fun _ h9 => h9) rfl dX5_hops_32 ?_
      refine lv_iload_n hx hb dX5_hops_35 rfl (lv_at hl 1 rfl) ?_
      obtain ⟨r9, e11, h⟩ := bd1_e h
      refine zcallVi (As := [.int x1]) (rest := []) CF hKK (KX2_hopsFrom (dC := dC) (dI := dI) (cI := cI) (cZ := cZ) (a := a) hok e11) (cwV 1 hts gX5_hops_X2_hopsFrom rfl rfl rfl cdX2_hopsFrom ⟨Nat.le_of_ble_eq_true rfl, Nat.le_of_ble_eq_true rfl⟩) 11 2 rfl rfl hz rfl hl.1 rfl (Nat.le_of_ble_eq_true rfl) dX5_hops_36 ⟨Nat.le_refl _, Nat.le_refl _⟩ (fun H locs hz => ?_)
      exact rt r9 σ 39 _ _ _ dX5_hops_39 h hz
    · replace h := ite_f c8 h
      refine lv_sipush (v := (-1003 : Int32)) hx hb dX5_hops_27 (by decide) ?_
      exact rt (-1003 : Int32) σ 30 _ _ _ dX5_hops_30 h hz
  · replace h := ite_t c4 h
    refine lv_sipush (v := (-1001 : Int32)) hx hb dX5_hops_11 (by decide) ?_
    exact rt (-1001 : Int32) σ 14 _ _ _ dX5_hops_14 h hz
def fX5_placed (σ : St) (x1 : Int32) : Option (Int32) :=
  (if x1 = (0 : Int32) then ((if (σ 54 0) = 0 then (some (1 : Int32)) else (some (0 : Int32)))) else (if x1 = (1 : Int32) then (some (σ 51 0)) else (if x1 = (2 : Int32) then (some (σ 52 0)) else (if x1 = (3 : Int32) then (some (σ 53 0)) else (if x1 = (4 : Int32) then (some (σ 54 0)) else (if x1 = (5 : Int32) then (some (σ 55 0)) else (if x1 = (6 : Int32) then ((bd1 (fX4_size_i σ ) fun r9 => some r9)) else (if x1 = (7 : Int32) then ((bd1 (fX4_size_c σ ) fun r13 => some r13)) else (if x1 = (8 : Int32) then (some (σ 50 0)) else some (-1002 : Int32))))))))))
abbrev rmX5_placed : Room := { frames := 1, cells := 0, slots := 0, locals := 20 }
set_option maxHeartbeats 4000000 in
set_option maxRecDepth 100000 in
theorem KX5_placed {l : Launch} {dC : Nat → ClassId} {dI : Nat → Nat → Nat} {cI cZ : ClassId} {a : Nat → Nat} {σ : St} {x1 : Int32} {r : Int32} (hok : okA 30 a) (h : fX5_placed σ x1 = some r) (sz : Nat) : Met l yX5_placed wsX5_placed rmX5_placed (Pz (dC, dI) cI cZ (wdC cI cZ a σ) sz [.ref (a 0), .int x1]) (Qzi (dC, dI) 30 a (wdC cI cZ a σ) sz r) 0 0 (aN 30 a sz) := by
  refine Met.ofW (cc := cX5_placed) (maxL := 2) (ret := (some .int)) (by decide) rfl ?_
  intro p e s m args below meth c s₁ B hml hv
  obtain ⟨hav, hsz, hP, hKK⟩ := hv
  have hx := B.exec
  have hb := B.bytes
  have hr := B.returns
  have hts := atoms_spec (ws := wsX5_placed) B.pre
  have hown : s.vm.findClass RX5 = some m.cls := findClass_of_methodNamed B.named
  have hlocks := B.notSynchronized
  have CF : CallFix p m c cX5_placed 2 s args wsX5_placed RX5 := ⟨hx, hb, hml, hown, hts⟩
  have hz : zz (dC, dI) 30 a (wdC cI cZ a σ) s.heap s.heap [] := ⟨hP, va_S.rf⟩
  have hl := lv_entry [.ref (a 0), .int x1] (n := 2) (Nat.le_of_ble_eq_true rfl)
  have hen : entryFrame m args 2 = entryFrame m ([.ref (a 0), .int x1] : List Value).toArray 2 := by rw [hav]
  rw [hen, lg_entry_eq]
  generalize (lg_sl [.ref (a 0), .int x1] ++ List.replicate (2 - (lg_sl [.ref (a 0), .int x1]).length) Slot.unset).toArray = ls at hl ⊢
  have hl : lv_has ls 2 [(0, .ref (a 0)), (1, .int x1)] := hl
  have eR : (headSpec wsX5_placed rmX5_placed).room = rmX5_placed := rfl
  rw [eR]
  have rt : ∀ (v : Int32) (t : St) (pc : Nat) (H : Heap) (locs : List Loc) (ls : Array Slot), decode cX5_placed pc = .ok (.ireturn, 1) → some v = some r → zz (dC, dI) 30 a (wdC cI cZ a σ) s.heap H locs → W p l e rmX5_placed s m args below meth c H locs 0 0 (MQ below (Qzi (dC, dI) 30 a (wdC cI cZ a σ) sz r) args s 0 0 (aN 30 a sz)) (F0 m pc ls [.int v]) := by
    intro v t pc H locs ls hd h hz
    cases h
    exact ziret hsz hx hb hr hlocks hz hd
  generalize (MQ below (Qzi (dC, dI) 30 a (wdC cI cZ a σ) sz r) args s 0 0 (aN 30 a sz)) = Q at rt ⊢
  unfold fX5_placed at h
  refine lv_iload_n hx hb dX5_placed_0 rfl (lv_at hl 1 rfl) ?_
  by_cases c1 : x1 = (0 : Int32)
  · replace h := ite_t c1 h
    refine lv_tableIn (tgt := 52) (off := 51) hx hb dX5_placed_1 (by rw [c1]; decide) (by rw [c1]; decide) (by rw [c1]; rfl) (by decide) ?_
    refine lv_aload_n hx hb dX5_placed_52 rfl (lv_at hl 0 rfl) ?_
    refine va_get (v := .ref (a 11)) hx hb hts inX5_placed_X5 hown hKK.1 hz.1 0 rfl rfl 4 (by decide) (hts _ (List.mem_of_getElem? (i := 1) rfl)) (fun _ h9 => h9) rfl dX5_placed_53 ?_
    refine va_getN (v := .int (σ 54 0)) hx hb hts inX5_placed_X2 hown hKK.1 hz.1 11 rfl rfl 14 (by decide) (va_Nw.use rfl hKK.2.2.2.2.2.2.2.2.2.2.2.2.1) (fun _ h9 => h9) rfl dX5_placed_56 ?_
    refine lv_if_ne (tgt := 66) hx hb dX5_placed_59 (by decide) (fun c2 => ?_) (fun c2 => ?_)
    · replace h := ite_f c2 h
      refine lv_iconst (v := (0 : Int32)) hx hb dX5_placed_66 (by decide) ?_
      exact rt (0 : Int32) σ 67 _ _ _ dX5_placed_67 h hz
    · replace h := ite_t c2 h
      refine lv_iconst (v := (1 : Int32)) hx hb dX5_placed_62 (by decide) ?_
      refine lv_goto (tgt := 67) hx hb dX5_placed_63 (by decide) ?_
      exact rt (1 : Int32) σ 67 _ _ _ dX5_placed_67 h hz
  replace h := ite_f c1 h
  by_cases c3 : x1 = (1 : Int32)
  · replace h := ite_t c3 h
    refine lv_tableIn (tgt := 68) (off := 67) hx hb dX5_placed_1 (by rw [c3]; decide) (by rw [c3]; decide) (by rw [c3]; rfl) (by decide) ?_
    refine lv_aload_n hx hb dX5_placed_68 rfl (lv_at hl 0 rfl) ?_
    refine va_get (v := .ref (a 11)) hx hb hts inX5_placed_X5 hown hKK.1 hz.1 0 rfl rfl 4 (by decide) (hts _ (List.mem_of_getElem? (i := 1) rfl)) (fun _ h9 => h9) rfl dX5_placed_69 ?_
    refine va_getN (v := .int (σ 51 0)) hx hb hts inX5_placed_X2 hown hKK.1 hz.1 11 rfl rfl 11 (by decide) (va_Nw.use rfl hKK.2.2.2.2.2.2.2.2.2.1) (fun _ h9 => h9) rfl dX5_placed_72 ?_
    exact rt (σ 51 0) σ 75 _ _ _ dX5_placed_75 h hz
  replace h := ite_f c3 h
  by_cases c4 : x1 = (2 : Int32)
  · replace h := ite_t c4 h
    refine lv_tableIn (tgt := 76) (off := 75) hx hb dX5_placed_1 (by rw [c4]; decide) (by rw [c4]; decide) (by rw [c4]; rfl) (by decide) ?_
    refine lv_aload_n hx hb dX5_placed_76 rfl (lv_at hl 0 rfl) ?_
    refine va_get (v := .ref (a 11)) hx hb hts inX5_placed_X5 hown hKK.1 hz.1 0 rfl rfl 4 (by decide) (hts _ (List.mem_of_getElem? (i := 1) rfl)) (fun _ h9 => h9) rfl dX5_placed_77 ?_
    refine va_getN (v := .int (σ 52 0)) hx hb hts inX5_placed_X2 hown hKK.1 hz.1 11 rfl rfl 12 (by decide) (va_Nw.use rfl hKK.2.2.2.2.2.2.2.2.2.2.1) (fun _ h9 => h9) rfl dX5_placed_80 ?_
    exact rt (σ 52 0) σ 83 _ _ _ dX5_placed_83 h hz
  replace h := ite_f c4 h
  by_cases c5 : x1 = (3 : Int32)
  · replace h := ite_t c5 h
    refine lv_tableIn (tgt := 84) (off := 83) hx hb dX5_placed_1 (by rw [c5]; decide) (by rw [c5]; decide) (by rw [c5]; rfl) (by decide) ?_
    refine lv_aload_n hx hb dX5_placed_84 rfl (lv_at hl 0 rfl) ?_
    refine va_get (v := .ref (a 11)) hx hb hts inX5_placed_X5 hown hKK.1 hz.1 0 rfl rfl 4 (by decide) (hts _ (List.mem_of_getElem? (i := 1) rfl)) (fun _ h9 => h9) rfl dX5_placed_85 ?_
    refine va_getN (v := .int (σ 53 0)) hx hb hts inX5_placed_X2 hown hKK.1 hz.1 11 rfl rfl 13 (by decide) (va_Nw.use rfl hKK.2.2.2.2.2.2.2.2.2.2.2.1) (fun _ h9 => h9) rfl dX5_placed_88 ?_
    exact rt (σ 53 0) σ 91 _ _ _ dX5_placed_91 h hz
  replace h := ite_f c5 h
  by_cases c6 : x1 = (4 : Int32)
  · replace h := ite_t c6 h
    refine lv_tableIn (tgt := 92) (off := 91) hx hb dX5_placed_1 (by rw [c6]; decide) (by rw [c6]; decide) (by rw [c6]; rfl) (by decide) ?_
    refine lv_aload_n hx hb dX5_placed_92 rfl (lv_at hl 0 rfl) ?_
    refine va_get (v := .ref (a 11)) hx hb hts inX5_placed_X5 hown hKK.1 hz.1 0 rfl rfl 4 (by decide) (hts _ (List.mem_of_getElem? (i := 1) rfl)) (fun _ h9 => h9) rfl dX5_placed_93 ?_
    refine va_getN (v := .int (σ 54 0)) hx hb hts inX5_placed_X2 hown hKK.1 hz.1 11 rfl rfl 14 (by decide) (va_Nw.use rfl hKK.2.2.2.2.2.2.2.2.2.2.2.2.1) (fun _ h9 => h9) rfl dX5_placed_96 ?_
    exact rt (σ 54 0) σ 99 _ _ _ dX5_placed_99 h hz
  replace h := ite_f c6 h
  by_cases c7 : x1 = (5 : Int32)
  · replace h := ite_t c7 h
    refine lv_tableIn (tgt := 100) (off := 99) hx hb dX5_placed_1 (by rw [c7]; decide) (by rw [c7]; decide) (by rw [c7]; rfl) (by decide) ?_
    refine lv_aload_n hx hb dX5_placed_100 rfl (lv_at hl 0 rfl) ?_
    refine va_get (v := .ref (a 11)) hx hb hts inX5_placed_X5 hown hKK.1 hz.1 0 rfl rfl 4 (by decide) (hts _ (List.mem_of_getElem? (i := 1) rfl)) (fun _ h9 => h9) rfl dX5_placed_101 ?_
    refine va_getN (v := .int (σ 55 0)) hx hb hts inX5_placed_X2 hown hKK.1 hz.1 11 rfl rfl 15 (by decide) (va_Nw.use rfl hKK.2.2.2.2.2.2.2.2.2.2.2.2.2.1) (fun _ h9 => h9) rfl dX5_placed_104 ?_
    exact rt (σ 55 0) σ 107 _ _ _ dX5_placed_107 h hz
  replace h := ite_f c7 h
  by_cases c8 : x1 = (6 : Int32)
  · replace h := ite_t c8 h
    refine lv_tableIn (tgt := 108) (off := 107) hx hb dX5_placed_1 (by rw [c8]; decide) (by rw [c8]; decide) (by rw [c8]; rfl) (by decide) ?_
    refine lv_aload_n hx hb dX5_placed_108 rfl (lv_at hl 0 rfl) ?_
    refine va_get (v := .ref (a 11)) hx hb hts inX5_placed_X5 hown hKK.1 hz.1 0 rfl rfl 4 (by decide) (hts _ (List.mem_of_getElem? (i := 1) rfl)) (fun _ h9 => h9) rfl dX5_placed_109 ?_
    refine va_getN (v := .ref (a 12)) hx hb hts inX5_placed_X2 hown hKK.1 hz.1 11 rfl rfl 2 (by decide) (va_Nw.use rfl hKK.2.2.2.2.2.2.1) (fun _ h9 => h9) rfl dX5_placed_112 ?_
    obtain ⟨r9, e11, h⟩ := bd1_e h
    refine zcallVi (As := []) (rest := []) CF hKK (KX4_size_i (dC := dC) (dI := dI) (cI := cI) (cZ := cZ) (a := a) hok e11) (cwV 0 hts gX5_placed_X4_size rfl rfl rfl cdX4_size ⟨Nat.le_of_ble_eq_true rfl, Nat.le_of_ble_eq_true rfl⟩) 12 4 rfl rfl hz rfl hl.1 rfl (Nat.le_of_ble_eq_true rfl) dX5_placed_115 ⟨Nat.le_refl _, Nat.le_refl _⟩ (fun H locs hz => ?_)
    exact rt r9 σ 118 _ _ _ dX5_placed_118 h hz
  replace h := ite_f c8 h
  by_cases c12 : x1 = (7 : Int32)
  · replace h := ite_t c12 h
    refine lv_tableIn (tgt := 119) (off := 118) hx hb dX5_placed_1 (by rw [c12]; decide) (by rw [c12]; decide) (by rw [c12]; rfl) (by decide) ?_
    refine lv_aload_n hx hb dX5_placed_119 rfl (lv_at hl 0 rfl) ?_
    refine va_get (v := .ref (a 11)) hx hb hts inX5_placed_X5 hown hKK.1 hz.1 0 rfl rfl 4 (by decide) (hts _ (List.mem_of_getElem? (i := 1) rfl)) (fun _ h9 => h9) rfl dX5_placed_120 ?_
    refine va_getN (v := .ref (a 18)) hx hb hts inX5_placed_X2 hown hKK.1 hz.1 11 rfl rfl 3 (by decide) (va_Nw.use rfl hKK.2.2.2.2.2.2.2.1) (fun _ h9 => h9) rfl dX5_placed_123 ?_
    obtain ⟨r13, e15, h⟩ := bd1_e h
    refine zcallVi (As := []) (rest := []) CF hKK (KX4_size_c (dC := dC) (dI := dI) (cI := cI) (cZ := cZ) (a := a) hok e15) (cwV 0 hts gX5_placed_X4_size rfl rfl rfl cdX4_size ⟨Nat.le_of_ble_eq_true rfl, Nat.le_of_ble_eq_true rfl⟩) 18 4 rfl rfl hz rfl hl.1 rfl (Nat.le_of_ble_eq_true rfl) dX5_placed_126 ⟨Nat.le_refl _, Nat.le_refl _⟩ (fun H locs hz => ?_)
    exact rt r13 σ 129 _ _ _ dX5_placed_129 h hz
  replace h := ite_f c12 h
  by_cases c16 : x1 = (8 : Int32)
  · replace h := ite_t c16 h
    refine lv_tableIn (tgt := 130) (off := 129) hx hb dX5_placed_1 (by rw [c16]; decide) (by rw [c16]; decide) (by rw [c16]; rfl) (by decide) ?_
    refine lv_aload_n hx hb dX5_placed_130 rfl (lv_at hl 0 rfl) ?_
    refine va_get (v := .ref (a 11)) hx hb hts inX5_placed_X5 hown hKK.1 hz.1 0 rfl rfl 4 (by decide) (hts _ (List.mem_of_getElem? (i := 1) rfl)) (fun _ h9 => h9) rfl dX5_placed_131 ?_
    refine va_getN (v := .int (σ 50 0)) hx hb hts inX5_placed_X2 hown hKK.1 hz.1 11 rfl rfl 10 (by decide) (va_Nw.use rfl hKK.2.2.2.2.2.2.2.2.1) (fun _ h9 => h9) rfl dX5_placed_134 ?_
    exact rt (σ 50 0) σ 137 _ _ _ dX5_placed_137 h hz
  replace h := ite_f c16 h
  refine lv_tableOut (tgt := 138) hx hb dX5_placed_1 (by have := lv_neT c1 (a := 0) rfl; have := lv_neT c3 (a := 1) rfl; have := lv_neT c4 (a := 2) rfl; have := lv_neT c5 (a := 3) rfl; have := lv_neT c6 (a := 4) rfl; have := lv_neT c7 (a := 5) rfl; have := lv_neT c8 (a := 6) rfl; have := lv_neT c12 (a := 7) rfl; have := lv_neT c16 (a := 8) rfl; omega) (by decide) ?_
  refine lv_sipush (v := (-1002 : Int32)) hx hb dX5_placed_138 (by decide) ?_
  exact rt (-1002 : Int32) σ 141 _ _ _ dX5_placed_141 h hz
def fX5_count (σ : St) (x1 : Int32) : Option (Int32) :=
  (if x1 = (0 : Int32) then ((bd1 (fX0_size_p σ ) fun r2 => some r2)) else (if x1 = (1 : Int32) then ((bd1 (fX1_length σ ) fun r6 => some r6)) else (if x1 = (2 : Int32) then ((bd1 (fX0_gaps_p σ ) fun r10 => some r10)) else (if x1 = (3 : Int32) then (some ((σ 10) (Int32.toNatClampNeg (0 : Int32)))) else (if x1 = (4 : Int32) then (some ((σ 10) (Int32.toNatClampNeg (1 : Int32)))) else (if x1 = (5 : Int32) then (some ((σ 10) (Int32.toNatClampNeg (2 : Int32)))) else (if x1 = (6 : Int32) then (some (σ 40 0)) else (if x1 = (7 : Int32) then (some (σ 41 0)) else some (-1002 : Int32)))))))))
abbrev rmX5_count : Room := { frames := 1, cells := 0, slots := 0, locals := 20 }
set_option maxHeartbeats 4000000 in
set_option maxRecDepth 100000 in
theorem KX5_count {l : Launch} {dC : Nat → ClassId} {dI : Nat → Nat → Nat} {cI cZ : ClassId} {a : Nat → Nat} {σ : St} {x1 : Int32} {r : Int32} (hok : okA 30 a) (h : fX5_count σ x1 = some r) (sz : Nat) : Met l yX5_count wsX5_count rmX5_count (Pz (dC, dI) cI cZ (wdC cI cZ a σ) sz [.ref (a 0), .int x1]) (Qzi (dC, dI) 30 a (wdC cI cZ a σ) sz r) 0 0 (aN 30 a sz) := by
  refine Met.ofW (cc := cX5_count) (maxL := 2) (ret := (some .int)) (by decide) rfl ?_
  intro p e s m args below meth c s₁ B hml hv
  obtain ⟨hav, hsz, hP, hKK⟩ := hv
  have hx := B.exec
  have hb := B.bytes
  have hr := B.returns
  have hts := atoms_spec (ws := wsX5_count) B.pre
  have hown : s.vm.findClass RX5 = some m.cls := findClass_of_methodNamed B.named
  have hlocks := B.notSynchronized
  have CF : CallFix p m c cX5_count 2 s args wsX5_count RX5 := ⟨hx, hb, hml, hown, hts⟩
  have hz : zz (dC, dI) 30 a (wdC cI cZ a σ) s.heap s.heap [] := ⟨hP, va_S.rf⟩
  have hl := lv_entry [.ref (a 0), .int x1] (n := 2) (Nat.le_of_ble_eq_true rfl)
  have hen : entryFrame m args 2 = entryFrame m ([.ref (a 0), .int x1] : List Value).toArray 2 := by rw [hav]
  rw [hen, lg_entry_eq]
  generalize (lg_sl [.ref (a 0), .int x1] ++ List.replicate (2 - (lg_sl [.ref (a 0), .int x1]).length) Slot.unset).toArray = ls at hl ⊢
  have hl : lv_has ls 2 [(0, .ref (a 0)), (1, .int x1)] := hl
  have eR : (headSpec wsX5_count rmX5_count).room = rmX5_count := rfl
  rw [eR]
  have rt : ∀ (v : Int32) (t : St) (pc : Nat) (H : Heap) (locs : List Loc) (ls : Array Slot), decode cX5_count pc = .ok (.ireturn, 1) → some v = some r → zz (dC, dI) 30 a (wdC cI cZ a σ) s.heap H locs → W p l e rmX5_count s m args below meth c H locs 0 0 (MQ below (Qzi (dC, dI) 30 a (wdC cI cZ a σ) sz r) args s 0 0 (aN 30 a sz)) (F0 m pc ls [.int v]) := by
    intro v t pc H locs ls hd h hz
    cases h
    exact ziret hsz hx hb hr hlocks hz hd
  generalize (MQ below (Qzi (dC, dI) 30 a (wdC cI cZ a σ) sz r) args s 0 0 (aN 30 a sz)) = Q at rt ⊢
  unfold fX5_count at h
  refine lv_iload_n hx hb dX5_count_0 rfl (lv_at hl 1 rfl) ?_
  by_cases c1 : x1 = (0 : Int32)
  · replace h := ite_t c1 h
    refine lv_tableIn (tgt := 48) (off := 47) hx hb dX5_count_1 (by rw [c1]; decide) (by rw [c1]; decide) (by rw [c1]; rfl) (by decide) ?_
    refine lv_aload_n hx hb dX5_count_48 rfl (lv_at hl 0 rfl) ?_
    refine va_get (v := .ref (a 7)) hx hb hts inX5_count_X5 hown hKK.1 hz.1 0 rfl rfl 2 (by decide) (hts _ (List.mem_of_getElem? (i := 1) rfl)) (fun _ h9 => h9) rfl dX5_count_49 ?_
    obtain ⟨r2, e4, h⟩ := bd1_e h
    refine zcallVi (As := []) (rest := []) CF hKK (KX0_size_p (dC := dC) (dI := dI) (cI := cI) (cZ := cZ) (a := a) hok e4) (cwV 0 hts gX5_count_X0_size rfl rfl rfl cdX0_size ⟨Nat.le_of_ble_eq_true rfl, Nat.le_of_ble_eq_true rfl⟩) 7 0 rfl rfl hz rfl hl.1 rfl (Nat.le_of_ble_eq_true rfl) dX5_count_52 ⟨Nat.le_refl _, Nat.le_refl _⟩ (fun H locs hz => ?_)
    exact rt r2 σ 55 _ _ _ dX5_count_55 h hz
  replace h := ite_f c1 h
  by_cases c5 : x1 = (1 : Int32)
  · replace h := ite_t c5 h
    refine lv_tableIn (tgt := 56) (off := 55) hx hb dX5_count_1 (by rw [c5]; decide) (by rw [c5]; decide) (by rw [c5]; rfl) (by decide) ?_
    refine lv_aload_n hx hb dX5_count_56 rfl (lv_at hl 0 rfl) ?_
    refine va_get (v := .ref (a 1)) hx hb hts inX5_count_X5 hown hKK.1 hz.1 0 rfl rfl 0 (by decide) (hts _ (List.mem_of_getElem? (i := 2) rfl)) (fun _ h9 => h9) rfl dX5_count_57 ?_
    obtain ⟨r6, e8, h⟩ := bd1_e h
    refine zcallVi (As := []) (rest := []) CF hKK (KX1_length (dC := dC) (dI := dI) (cI := cI) (cZ := cZ) (a := a) hok e8) (cwV 0 hts gX5_count_X1_length rfl rfl rfl cdX1_length ⟨Nat.le_of_ble_eq_true rfl, Nat.le_of_ble_eq_true rfl⟩) 1 1 rfl rfl hz rfl hl.1 rfl (Nat.le_of_ble_eq_true rfl) dX5_count_60 ⟨Nat.le_refl _, Nat.le_refl _⟩ (fun H locs hz => ?_)
    exact rt r6 σ 63 _ _ _ dX5_count_63 h hz
  replace h := ite_f c5 h
  by_cases c9 : x1 = (2 : Int32)
  · replace h := ite_t c9 h
    refine lv_tableIn (tgt := 64) (off := 63) hx hb dX5_count_1 (by rw [c9]; decide) (by rw [c9]; decide) (by rw [c9]; rfl) (by decide) ?_
    refine lv_aload_n hx hb dX5_count_64 rfl (lv_at hl 0 rfl) ?_
    refine va_get (v := .ref (a 7)) hx hb hts inX5_count_X5 hown hKK.1 hz.1 0 rfl rfl 2 (by decide) (hts _ (List.mem_of_getElem? (i := 1) rfl)) (fun _ h9 => h9) rfl dX5_count_65 ?_
    obtain ⟨r10, e12, h⟩ := bd1_e h
    refine zcallVi (As := []) (rest := []) CF hKK (KX0_gaps_p (dC := dC) (dI := dI) (cI := cI) (cZ := cZ) (a := a) hok e12) (cwV 0 hts gX5_count_X0_gaps rfl rfl rfl cdX0_gaps ⟨Nat.le_of_ble_eq_true rfl, Nat.le_of_ble_eq_true rfl⟩) 7 0 rfl rfl hz rfl hl.1 rfl (Nat.le_of_ble_eq_true rfl) dX5_count_68 ⟨Nat.le_refl _, Nat.le_refl _⟩ (fun H locs hz => ?_)
    exact rt r10 σ 71 _ _ _ dX5_count_71 h hz
  replace h := ite_f c9 h
  by_cases c13 : x1 = (3 : Int32)
  · replace h := ite_t c13 h
    refine lv_tableIn (tgt := 72) (off := 71) hx hb dX5_count_1 (by rw [c13]; decide) (by rw [c13]; decide) (by rw [c13]; rfl) (by decide) ?_
    refine lv_aload_n hx hb dX5_count_72 rfl (lv_at hl 0 rfl) ?_
    refine va_get (v := .ref (a 10)) hx hb hts inX5_count_X5 hown hKK.1 hz.1 0 rfl rfl 3 (by decide) (hts _ (List.mem_of_getElem? (i := 3) rfl)) (fun _ h9 => h9) rfl dX5_count_73 ?_
    refine lv_iconst (v := (0 : Int32)) hx hb dX5_count_76 (by decide) ?_
    refine va_iald (f := (σ 10)) hx hb hKK.1 hz.1 10 0 rfl rfl (by decide : vp_inD (0 : Int32) 3) dX5_count_77 ?_
    exact rt ((σ 10) (Int32.toNatClampNeg (0 : Int32))) σ 78 _ _ _ dX5_count_78 h hz
  replace h := ite_f c13 h
  by_cases c14 : x1 = (4 : Int32)
  · replace h := ite_t c14 h
    refine lv_tableIn (tgt := 79) (off := 78) hx hb dX5_count_1 (by rw [c14]; decide) (by rw [c14]; decide) (by rw [c14]; rfl) (by decide) ?_
    refine lv_aload_n hx hb dX5_count_79 rfl (lv_at hl 0 rfl) ?_
    refine va_get (v := .ref (a 10)) hx hb hts inX5_count_X5 hown hKK.1 hz.1 0 rfl rfl 3 (by decide) (hts _ (List.mem_of_getElem? (i := 3) rfl)) (fun _ h9 => h9) rfl dX5_count_80 ?_
    refine lv_iconst (v := (1 : Int32)) hx hb dX5_count_83 (by decide) ?_
    refine va_iald (f := (σ 10)) hx hb hKK.1 hz.1 10 0 rfl rfl (by decide : vp_inD (1 : Int32) 3) dX5_count_84 ?_
    exact rt ((σ 10) (Int32.toNatClampNeg (1 : Int32))) σ 85 _ _ _ dX5_count_85 h hz
  replace h := ite_f c14 h
  by_cases c15 : x1 = (5 : Int32)
  · replace h := ite_t c15 h
    refine lv_tableIn (tgt := 86) (off := 85) hx hb dX5_count_1 (by rw [c15]; decide) (by rw [c15]; decide) (by rw [c15]; rfl) (by decide) ?_
    refine lv_aload_n hx hb dX5_count_86 rfl (lv_at hl 0 rfl) ?_
    refine va_get (v := .ref (a 10)) hx hb hts inX5_count_X5 hown hKK.1 hz.1 0 rfl rfl 3 (by decide) (hts _ (List.mem_of_getElem? (i := 3) rfl)) (fun _ h9 => h9) rfl dX5_count_87 ?_
    refine lv_iconst (v := (2 : Int32)) hx hb dX5_count_90 (by decide) ?_
    refine va_iald (f := (σ 10)) hx hb hKK.1 hz.1 10 0 rfl rfl (by decide : vp_inD (2 : Int32) 3) dX5_count_91 ?_
    exact rt ((σ 10) (Int32.toNatClampNeg (2 : Int32))) σ 92 _ _ _ dX5_count_92 h hz
  replace h := ite_f c15 h
  by_cases c16 : x1 = (6 : Int32)
  · replace h := ite_t c16 h
    refine lv_tableIn (tgt := 93) (off := 92) hx hb dX5_count_1 (by rw [c16]; decide) (by rw [c16]; decide) (by rw [c16]; rfl) (by decide) ?_
    refine lv_aload_n hx hb dX5_count_93 rfl (lv_at hl 0 rfl) ?_
    refine va_get (v := .int (σ 40 0)) hx hb hts inX5_count_X5 hown hKK.1 hz.1 0 rfl rfl 5 (by decide) (hts _ (List.mem_of_getElem? (i := 4) rfl)) (fun _ h9 => h9) rfl dX5_count_94 ?_
    exact rt (σ 40 0) σ 97 _ _ _ dX5_count_97 h hz
  replace h := ite_f c16 h
  by_cases c17 : x1 = (7 : Int32)
  · replace h := ite_t c17 h
    refine lv_tableIn (tgt := 98) (off := 97) hx hb dX5_count_1 (by rw [c17]; decide) (by rw [c17]; decide) (by rw [c17]; rfl) (by decide) ?_
    refine lv_aload_n hx hb dX5_count_98 rfl (lv_at hl 0 rfl) ?_
    refine va_get (v := .int (σ 41 0)) hx hb hts inX5_count_X5 hown hKK.1 hz.1 0 rfl rfl 6 (by decide) (hts _ (List.mem_of_getElem? (i := 5) rfl)) (fun _ h9 => h9) rfl dX5_count_99 ?_
    exact rt (σ 41 0) σ 102 _ _ _ dX5_count_102 h hz
  replace h := ite_f c17 h
  refine lv_tableOut (tgt := 103) hx hb dX5_count_1 (by have := lv_neT c1 (a := 0) rfl; have := lv_neT c5 (a := 1) rfl; have := lv_neT c9 (a := 2) rfl; have := lv_neT c13 (a := 3) rfl; have := lv_neT c14 (a := 4) rfl; have := lv_neT c15 (a := 5) rfl; have := lv_neT c16 (a := 6) rfl; have := lv_neT c17 (a := 7) rfl; omega) (by decide) ?_
  refine lv_sipush (v := (-1002 : Int32)) hx hb dX5_count_103 (by decide) ?_
  exact rt (-1002 : Int32) σ 106 _ _ _ dX5_count_106 h hz
def fX5_digestItems_s20 (σ : St) (k5 : Int64 → Int32 → Option (Int64)) (k20 : Int64 → Int32 → Int32 → Option (Int64)) (y3 : Int64) (y5 : Int32) (y6 : Int32) : Option (Int64) :=
  (if (6 : Int32) ≤ y6 then (k5 y3 (y5 + (1 : Int32))) else ((bd1 (fX5_item σ y5 y6) fun r6 => k20 (((31 : Int64) * y3) + (Int32.toInt64 r6)) y5 (y6 + (1 : Int32)))))
def fX5_digestItems_l20 (σ : St) (k5 : Int64 → Int32 → Option (Int64)) : Nat → Int64 → Int32 → Int32 → Option (Int64) :=
  itr (fX5_digestItems_s20 σ k5) (fun _ _ _ => none)
def fX5_digestItems_s5 (σ : St) (k5 : Int64 → Int32 → Option (Int64)) (y3 : Int64) (y5 : Int32) : Option (Int64) :=
  (bd1 (fX0_size_p σ ) fun r1 => (if r1 ≤ y5 then (some y3) else (fX5_digestItems_l20 σ k5 FU y3 y5 (0 : Int32))))
def fX5_digestItems_l5 (σ : St)  : Nat → Int64 → Int32 → Option (Int64) :=
  itr (fX5_digestItems_s5 σ ) (fun _ _ => none)
def fX5_digestItems (σ : St) (x1 : Int64) : Option (Int64) :=
  fX5_digestItems_l5 σ  FU x1 (0 : Int32)
abbrev rmX5_digestItems : Room := { frames := 3, cells := 0, slots := 0, locals := 64 }
set_option maxHeartbeats 4000000 in
set_option maxRecDepth 100000 in
theorem KX5_digestItems {l : Launch} {dC : Nat → ClassId} {dI : Nat → Nat → Nat} {cI cZ : ClassId} {a : Nat → Nat} {σ : St} {x1 : Int64} {r : Int64} (hok : okA 30 a) (h : fX5_digestItems σ x1 = some r) (sz : Nat) : Met l yX5_digestItems wsX5_digestItems rmX5_digestItems (Pz (dC, dI) cI cZ (wdC cI cZ a σ) sz [.ref (a 0), .long x1]) (Qzl (dC, dI) 30 a (wdC cI cZ a σ) sz r) 0 0 (aN 30 a sz) := by
  refine Met.ofW (cc := cX5_digestItems) (maxL := 7) (ret := (some .long)) (by decide) rfl ?_
  intro p e s m args below meth c s₁ B hml hv
  obtain ⟨hav, hsz, hP, hKK⟩ := hv
  have hx := B.exec
  have hb := B.bytes
  have hr := B.returns
  have hts := atoms_spec (ws := wsX5_digestItems) B.pre
  have hown : s.vm.findClass RX5 = some m.cls := findClass_of_methodNamed B.named
  have hlocks := B.notSynchronized
  have CF : CallFix p m c cX5_digestItems 7 s args wsX5_digestItems RX5 := ⟨hx, hb, hml, hown, hts⟩
  have hz : zz (dC, dI) 30 a (wdC cI cZ a σ) s.heap s.heap [] := ⟨hP, va_S.rf⟩
  have hl := lv_entry [.ref (a 0), .long x1] (n := 7) (Nat.le_of_ble_eq_true rfl)
  have hen : entryFrame m args 7 = entryFrame m ([.ref (a 0), .long x1] : List Value).toArray 7 := by rw [hav]
  rw [hen, lg_entry_eq]
  generalize (lg_sl [.ref (a 0), .long x1] ++ List.replicate (7 - (lg_sl [.ref (a 0), .long x1]).length) Slot.unset).toArray = ls at hl ⊢
  have hl : lv_has ls 7 [(0, .ref (a 0)), (1, .long x1)] := hl
  have eR : (headSpec wsX5_digestItems rmX5_digestItems).room = rmX5_digestItems := rfl
  rw [eR]
  have rt : ∀ (v : Int64) (t : St) (pc : Nat) (H : Heap) (locs : List Loc) (ls : Array Slot), decode cX5_digestItems pc = .ok (.lreturn, 1) → some v = some r → zz (dC, dI) 30 a (wdC cI cZ a σ) s.heap H locs → W p l e rmX5_digestItems s m args below meth c H locs 0 0 (MQ below (Qzl (dC, dI) 30 a (wdC cI cZ a σ) sz r) args s 0 0 (aN 30 a sz)) (F0 m pc ls [.long v]) := by
    intro v t pc H locs ls hd h hz
    cases h
    exact zlret hsz hx hb hr hlocks hz hd
  generalize (MQ below (Qzl (dC, dI) 30 a (wdC cI cZ a σ) sz r) args s 0 0 (aN 30 a sz)) = Q at rt ⊢
  have s20 : ∀ (k5 : Int64 → Int32 → Option (Int64)) (hk5 : (∀ (y3 : Int64) (y5 : Int32) (H : Heap) (locs : List Loc) (ls : Array Slot), k5 y3 y5 = some r → zz (dC, dI) 30 a (wdC cI cZ a σ) s.heap H locs → lv_has ls 7 [(0, .ref (a 0)), (3, .long y3), (5, .int y5)] → W p l e rmX5_digestItems s m args below meth c H locs 0 0 Q (F0 m 5 ls []))) (k20 : Int64 → Int32 → Int32 → Option (Int64)) (hk20 : (∀ (y3 : Int64) (y5 : Int32) (y6 : Int32) (H : Heap) (locs : List Loc) (ls : Array Slot), k20 y3 y5 y6 = some r → zz (dC, dI) 30 a (wdC cI cZ a σ) s.heap H locs → lv_has ls 7 [(0, .ref (a 0)), (3, .long y3), (5, .int y5), (6, .int y6)] → W p l e rmX5_digestItems s m args below meth c H locs 0 0 Q (F0 m 20 ls []))) (y3 : Int64) (y5 : Int32) (y6 : Int32) (H : Heap) (locs : List Loc) (ls : Array Slot), fX5_digestItems_s20 σ k5 k20 y3 y5 y6 = some r → zz (dC, dI) 30 a (wdC cI cZ a σ) s.heap H locs → lv_has ls 7 [(0, .ref (a 0)), (3, .long y3), (5, .int y5), (6, .int y6)] → W p l e rmX5_digestItems s m args below meth c H locs 0 0 Q (F0 m 20 ls []) := by
    intro k5 hk5 k20 hk20 y3 y5 y6 H locs ls h hz hl
    unfold fX5_digestItems_s20 at h
    refine lv_iload hx hb dX5_digestItems_20 (lv_at hl 3 rfl) ?_
    refine lv_bipush (v := (6 : Int32)) hx hb dX5_digestItems_22 (by decide) ?_
    refine lv_icmp_ge (tgt := 49) hx hb dX5_digestItems_24 (by decide) (fun c5 => ?_) (fun c5 => ?_)
    · replace h := ite_t c5 h
      refine lv_iinc (v := (y5 + (1 : Int32))) (lv' := [(5, .int (y5 + (1 : Int32))), (0, .ref (a 0)), (3, .long y3), (6, .int y6)]) hx hb dX5_digestItems_49 hl (k := 2) rfl rfl (by decide) rfl (fun ls hl => ?_)
      refine lv_goto (tgt := 5) hx hb dX5_digestItems_52 (by decide) ?_
      exact hk5 y3 (y5 + (1 : Int32)) _ _ _ h hz (lv_sub hl [1, 2, 0] rfl)
    · replace h := ite_f c5 h
      refine lv_ldc2 (v := (31 : Int64)) hx hb hown (hts _ (List.mem_of_getElem? (i := 2) rfl)) dX5_digestItems_27 ?_
      refine lv_lload_n hx hb dX5_digestItems_30 rfl (lv_at hl 1 rfl) ?_
      refine lv_lmul hx hb dX5_digestItems_31 ?_
      refine lv_aload_n hx hb dX5_digestItems_32 rfl (lv_at hl 0 rfl) ?_
      refine lv_iload hx hb dX5_digestItems_33 (lv_at hl 2 rfl) ?_
      refine lv_iload hx hb dX5_digestItems_35 (lv_at hl 3 rfl) ?_
      obtain ⟨r6, e8, h⟩ := bd1_e h
      refine zcallVi (As := [.int y5, .int y6]) (rest := [.long ((31 : Int64) * y3)]) CF hKK (KX5_item (dC := dC) (dI := dI) (cI := cI) (cZ := cZ) (a := a) hok e8) (cwV 2 hts gX5_digestItems_X5_item rfl rfl rfl cdX5_item ⟨Nat.le_of_ble_eq_true rfl, Nat.le_of_ble_eq_true rfl⟩) 0 5 rfl rfl hz rfl hl.1 rfl (Nat.le_of_ble_eq_true rfl) dX5_digestItems_37 ⟨Nat.le_refl _, Nat.le_refl _⟩ (fun H locs hz => ?_)
      refine lv_i2l (v := (Int32.toInt64 r6)) hx hb dX5_digestItems_40 rfl ?_
      refine lv_ladd hx hb dX5_digestItems_41 ?_
      refine lv_lstore_n (lv' := [(3, .long (((31 : Int64) * y3) + (Int32.toInt64 r6))), (0, .ref (a 0)), (5, .int y5), (6, .int y6)]) hx hb dX5_digestItems_42 rfl hl (by decide) rfl (fun ls hl => ?_)
      refine lv_iinc (v := (y6 + (1 : Int32))) (lv' := [(6, .int (y6 + (1 : Int32))), (3, .long (((31 : Int64) * y3) + (Int32.toInt64 r6))), (0, .ref (a 0)), (5, .int y5)]) hx hb dX5_digestItems_43 hl (k := 3) rfl rfl (by decide) rfl (fun ls hl => ?_)
      refine lv_goto (tgt := 20) hx hb dX5_digestItems_46 (by decide) ?_
      exact hk20 (((31 : Int64) * y3) + (Int32.toInt64 r6)) y5 (y6 + (1 : Int32)) _ _ _ h hz (lv_sub hl [2, 1, 3, 0] rfl)
  have l20 : ∀ (k5 : Int64 → Int32 → Option (Int64)) (hk5 : (∀ (y3 : Int64) (y5 : Int32) (H : Heap) (locs : List Loc) (ls : Array Slot), k5 y3 y5 = some r → zz (dC, dI) 30 a (wdC cI cZ a σ) s.heap H locs → lv_has ls 7 [(0, .ref (a 0)), (3, .long y3), (5, .int y5)] → W p l e rmX5_digestItems s m args below meth c H locs 0 0 Q (F0 m 5 ls []))) (n : Nat), ∀ (y3 : Int64) (y5 : Int32) (y6 : Int32) (H : Heap) (locs : List Loc) (ls : Array Slot), fX5_digestItems_l20 σ k5 n y3 y5 y6 = some r → zz (dC, dI) 30 a (wdC cI cZ a σ) s.heap H locs → lv_has ls 7 [(0, .ref (a 0)), (3, .long y3), (5, .int y5), (6, .int y6)] → W p l e rmX5_digestItems s m args below meth c H locs 0 0 Q (F0 m 20 ls []) := by
    intro k5 hk5 n
    induction n with
    | zero => intro y3 y5 y6 H locs ls h; exact nomatch h
    | succ n ih => exact s20 k5 hk5 (fX5_digestItems_l20 σ k5 n) ih
  have s5 : ∀ (k5 : Int64 → Int32 → Option (Int64)) (hk5 : (∀ (y3 : Int64) (y5 : Int32) (H : Heap) (locs : List Loc) (ls : Array Slot), k5 y3 y5 = some r → zz (dC, dI) 30 a (wdC cI cZ a σ) s.heap H locs → lv_has ls 7 [(0, .ref (a 0)), (3, .long y3), (5, .int y5)] → W p l e rmX5_digestItems s m args below meth c H locs 0 0 Q (F0 m 5 ls []))) (y3 : Int64) (y5 : Int32) (H : Heap) (locs : List Loc) (ls : Array Slot), fX5_digestItems_s5 σ k5 y3 y5 = some r → zz (dC, dI) 30 a (wdC cI cZ a σ) s.heap H locs → lv_has ls 7 [(0, .ref (a 0)), (3, .long y3), (5, .int y5)] → W p l e rmX5_digestItems s m args below meth c H locs 0 0 Q (F0 m 5 ls []) := by
    intro k5 hk5 y3 y5 H locs ls h hz hl
    unfold fX5_digestItems_s5 at h
    refine lv_iload hx hb dX5_digestItems_5 (lv_at hl 2 rfl) ?_
    refine lv_aload_n hx hb dX5_digestItems_7 rfl (lv_at hl 0 rfl) ?_
    refine va_get (v := .ref (a 7)) hx hb hts inX5_digestItems_X5 hown hKK.1 hz.1 0 rfl rfl 2 (by decide) (hts _ (List.mem_of_getElem? (i := 1) rfl)) (fun _ h9 => h9) rfl dX5_digestItems_8 ?_
    obtain ⟨r1, e3, h⟩ := bd1_e h
    refine zcallVi (As := []) (rest := [.int y5]) CF hKK (KX0_size_p (dC := dC) (dI := dI) (cI := cI) (cZ := cZ) (a := a) hok e3) (cwV 0 hts gX5_digestItems_X0_size rfl rfl rfl cdX0_size ⟨Nat.le_of_ble_eq_true rfl, Nat.le_of_ble_eq_true rfl⟩) 7 0 rfl rfl hz rfl hl.1 rfl (Nat.le_of_ble_eq_true rfl) dX5_digestItems_11 ⟨Nat.le_refl _, Nat.le_refl _⟩ (fun H locs hz => ?_)
    refine lv_icmp_ge (tgt := 55) hx hb dX5_digestItems_14 (by decide) (fun c4 => ?_) (fun c4 => ?_)
    · replace h := ite_t c4 h
      refine lv_lload_n hx hb dX5_digestItems_55 rfl (lv_at hl 1 rfl) ?_
      exact rt y3 σ 56 _ _ _ dX5_digestItems_56 h hz
    · replace h := ite_f c4 h
      refine lv_iconst (v := (0 : Int32)) hx hb dX5_digestItems_17 (by decide) ?_
      refine lv_istore (lv' := [(6, .int (0 : Int32)), (0, .ref (a 0)), (3, .long y3), (5, .int y5)]) hx hb dX5_digestItems_18 hl (by decide) rfl (fun ls hl => ?_)
      exact l20 k5 hk5 FU y3 y5 (0 : Int32) _ _ _ h hz (lv_sub hl [1, 2, 3, 0] rfl)
  have l5 : ∀  (n : Nat), ∀ (y3 : Int64) (y5 : Int32) (H : Heap) (locs : List Loc) (ls : Array Slot), fX5_digestItems_l5 σ  n y3 y5 = some r → zz (dC, dI) 30 a (wdC cI cZ a σ) s.heap H locs → lv_has ls 7 [(0, .ref (a 0)), (3, .long y3), (5, .int y5)] → W p l e rmX5_digestItems s m args below meth c H locs 0 0 Q (F0 m 5 ls []) := by
    intro  n
    induction n with
    | zero => intro y3 y5 H locs ls h; exact nomatch h
    | succ n ih => exact s5  (fX5_digestItems_l5 σ  n) ih
  unfold fX5_digestItems at h
  refine lv_lload_n hx hb dX5_digestItems_0 rfl (lv_at hl 1 rfl) ?_
  refine lv_lstore_n (lv' := [(3, .long x1), (0, .ref (a 0)), (1, .long x1)]) hx hb dX5_digestItems_1 rfl hl (by decide) rfl (fun ls hl => ?_)
  refine lv_iconst (v := (0 : Int32)) hx hb dX5_digestItems_2 (by decide) ?_
  refine lv_istore (lv' := [(5, .int (0 : Int32)), (3, .long x1), (0, .ref (a 0)), (1, .long x1)]) hx hb dX5_digestItems_3 hl (by decide) rfl (fun ls hl => ?_)
  exact l5  FU x1 (0 : Int32) _ _ _ h hz (lv_sub hl [2, 1, 0] rfl)
def fX5_digestIslands_s23 (σ : St) (k5 : Int64 → Int32 → Option (Int64)) (k23 : Int64 → Int32 → Int32 → Option (Int64)) (y3 : Int64) (y5 : Int32) (y6 : Int32) : Option (Int64) :=
  (if (4 : Int32) ≤ y6 then (k5 y3 (y5 + (1 : Int32))) else ((bd1 (fX5_island σ y5 y6) fun r6 => k23 (((31 : Int64) * y3) + (Int32.toInt64 r6)) y5 (y6 + (1 : Int32)))))
def fX5_digestIslands_l23 (σ : St) (k5 : Int64 → Int32 → Option (Int64)) : Nat → Int64 → Int32 → Int32 → Option (Int64) :=
  itr (fX5_digestIslands_s23 σ k5) (fun _ _ _ => none)
def fX5_digestIslands_s5 (σ : St) (k5 : Int64 → Int32 → Option (Int64)) (y3 : Int64) (y5 : Int32) : Option (Int64) :=
  (bd1 (fX4_size_i σ ) fun r1 => (if r1 ≤ y5 then (some y3) else (fX5_digestIslands_l23 σ k5 FU y3 y5 (0 : Int32))))
def fX5_digestIslands_l5 (σ : St)  : Nat → Int64 → Int32 → Option (Int64) :=
  itr (fX5_digestIslands_s5 σ ) (fun _ _ => none)
def fX5_digestIslands (σ : St) (x1 : Int64) : Option (Int64) :=
  fX5_digestIslands_l5 σ  FU x1 (0 : Int32)
abbrev rmX5_digestIslands : Room := { frames := 3, cells := 0, slots := 0, locals := 66 }
set_option maxHeartbeats 4000000 in
set_option maxRecDepth 100000 in
theorem KX5_digestIslands {l : Launch} {dC : Nat → ClassId} {dI : Nat → Nat → Nat} {cI cZ : ClassId} {a : Nat → Nat} {σ : St} {x1 : Int64} {r : Int64} (hok : okA 30 a) (h : fX5_digestIslands σ x1 = some r) (sz : Nat) : Met l yX5_digestIslands wsX5_digestIslands rmX5_digestIslands (Pz (dC, dI) cI cZ (wdC cI cZ a σ) sz [.ref (a 0), .long x1]) (Qzl (dC, dI) 30 a (wdC cI cZ a σ) sz r) 0 0 (aN 30 a sz) := by
  refine Met.ofW (cc := cX5_digestIslands) (maxL := 7) (ret := (some .long)) (by decide) rfl ?_
  intro p e s m args below meth c s₁ B hml hv
  obtain ⟨hav, hsz, hP, hKK⟩ := hv
  have hx := B.exec
  have hb := B.bytes
  have hr := B.returns
  have hts := atoms_spec (ws := wsX5_digestIslands) B.pre
  have hown : s.vm.findClass RX5 = some m.cls := findClass_of_methodNamed B.named
  have hlocks := B.notSynchronized
  have CF : CallFix p m c cX5_digestIslands 7 s args wsX5_digestIslands RX5 := ⟨hx, hb, hml, hown, hts⟩
  have hz : zz (dC, dI) 30 a (wdC cI cZ a σ) s.heap s.heap [] := ⟨hP, va_S.rf⟩
  have hl := lv_entry [.ref (a 0), .long x1] (n := 7) (Nat.le_of_ble_eq_true rfl)
  have hen : entryFrame m args 7 = entryFrame m ([.ref (a 0), .long x1] : List Value).toArray 7 := by rw [hav]
  rw [hen, lg_entry_eq]
  generalize (lg_sl [.ref (a 0), .long x1] ++ List.replicate (7 - (lg_sl [.ref (a 0), .long x1]).length) Slot.unset).toArray = ls at hl ⊢
  have hl : lv_has ls 7 [(0, .ref (a 0)), (1, .long x1)] := hl
  have eR : (headSpec wsX5_digestIslands rmX5_digestIslands).room = rmX5_digestIslands := rfl
  rw [eR]
  have rt : ∀ (v : Int64) (t : St) (pc : Nat) (H : Heap) (locs : List Loc) (ls : Array Slot), decode cX5_digestIslands pc = .ok (.lreturn, 1) → some v = some r → zz (dC, dI) 30 a (wdC cI cZ a σ) s.heap H locs → W p l e rmX5_digestIslands s m args below meth c H locs 0 0 (MQ below (Qzl (dC, dI) 30 a (wdC cI cZ a σ) sz r) args s 0 0 (aN 30 a sz)) (F0 m pc ls [.long v]) := by
    intro v t pc H locs ls hd h hz
    cases h
    exact zlret hsz hx hb hr hlocks hz hd
  generalize (MQ below (Qzl (dC, dI) 30 a (wdC cI cZ a σ) sz r) args s 0 0 (aN 30 a sz)) = Q at rt ⊢
  have s23 : ∀ (k5 : Int64 → Int32 → Option (Int64)) (hk5 : (∀ (y3 : Int64) (y5 : Int32) (H : Heap) (locs : List Loc) (ls : Array Slot), k5 y3 y5 = some r → zz (dC, dI) 30 a (wdC cI cZ a σ) s.heap H locs → lv_has ls 7 [(0, .ref (a 0)), (3, .long y3), (5, .int y5)] → W p l e rmX5_digestIslands s m args below meth c H locs 0 0 Q (F0 m 5 ls []))) (k23 : Int64 → Int32 → Int32 → Option (Int64)) (hk23 : (∀ (y3 : Int64) (y5 : Int32) (y6 : Int32) (H : Heap) (locs : List Loc) (ls : Array Slot), k23 y3 y5 y6 = some r → zz (dC, dI) 30 a (wdC cI cZ a σ) s.heap H locs → lv_has ls 7 [(0, .ref (a 0)), (3, .long y3), (5, .int y5), (6, .int y6)] → W p l e rmX5_digestIslands s m args below meth c H locs 0 0 Q (F0 m 23 ls []))) (y3 : Int64) (y5 : Int32) (y6 : Int32) (H : Heap) (locs : List Loc) (ls : Array Slot), fX5_digestIslands_s23 σ k5 k23 y3 y5 y6 = some r → zz (dC, dI) 30 a (wdC cI cZ a σ) s.heap H locs → lv_has ls 7 [(0, .ref (a 0)), (3, .long y3), (5, .int y5), (6, .int y6)] → W p l e rmX5_digestIslands s m args below meth c H locs 0 0 Q (F0 m 23 ls []) := by
    intro k5 hk5 k23 hk23 y3 y5 y6 H locs ls h hz hl
    unfold fX5_digestIslands_s23 at h
    refine lv_iload hx hb dX5_digestIslands_23 (lv_at hl 3 rfl) ?_
    refine lv_iconst (v := (4 : Int32)) hx hb dX5_digestIslands_25 (by decide) ?_
    refine lv_icmp_ge (tgt := 51) hx hb dX5_digestIslands_26 (by decide) (fun c5 => ?_) (fun c5 => ?_)
    · replace h := ite_t c5 h
      refine lv_iinc (v := (y5 + (1 : Int32))) (lv' := [(5, .int (y5 + (1 : Int32))), (0, .ref (a 0)), (3, .long y3), (6, .int y6)]) hx hb dX5_digestIslands_51 hl (k := 2) rfl rfl (by decide) rfl (fun ls hl => ?_)
      refine lv_goto (tgt := 5) hx hb dX5_digestIslands_54 (by decide) ?_
      exact hk5 y3 (y5 + (1 : Int32)) _ _ _ h hz (lv_sub hl [1, 2, 0] rfl)
    · replace h := ite_f c5 h
      refine lv_ldc2 (v := (31 : Int64)) hx hb hown (hts _ (List.mem_of_getElem? (i := 2) rfl)) dX5_digestIslands_29 ?_
      refine lv_lload_n hx hb dX5_digestIslands_32 rfl (lv_at hl 1 rfl) ?_
      refine lv_lmul hx hb dX5_digestIslands_33 ?_
      refine lv_aload_n hx hb dX5_digestIslands_34 rfl (lv_at hl 0 rfl) ?_
      refine lv_iload hx hb dX5_digestIslands_35 (lv_at hl 2 rfl) ?_
      refine lv_iload hx hb dX5_digestIslands_37 (lv_at hl 3 rfl) ?_
      obtain ⟨r6, e8, h⟩ := bd1_e h
      refine zcallVi (As := [.int y5, .int y6]) (rest := [.long ((31 : Int64) * y3)]) CF hKK (KX5_island (dC := dC) (dI := dI) (cI := cI) (cZ := cZ) (a := a) hok e8) (cwV 2 hts gX5_digestIslands_X5_island rfl rfl rfl cdX5_island ⟨Nat.le_of_ble_eq_true rfl, Nat.le_of_ble_eq_true rfl⟩) 0 5 rfl rfl hz rfl hl.1 rfl (Nat.le_of_ble_eq_true rfl) dX5_digestIslands_39 ⟨Nat.le_refl _, Nat.le_refl _⟩ (fun H locs hz => ?_)
      refine lv_i2l (v := (Int32.toInt64 r6)) hx hb dX5_digestIslands_42 rfl ?_
      refine lv_ladd hx hb dX5_digestIslands_43 ?_
      refine lv_lstore_n (lv' := [(3, .long (((31 : Int64) * y3) + (Int32.toInt64 r6))), (0, .ref (a 0)), (5, .int y5), (6, .int y6)]) hx hb dX5_digestIslands_44 rfl hl (by decide) rfl (fun ls hl => ?_)
      refine lv_iinc (v := (y6 + (1 : Int32))) (lv' := [(6, .int (y6 + (1 : Int32))), (3, .long (((31 : Int64) * y3) + (Int32.toInt64 r6))), (0, .ref (a 0)), (5, .int y5)]) hx hb dX5_digestIslands_45 hl (k := 3) rfl rfl (by decide) rfl (fun ls hl => ?_)
      refine lv_goto (tgt := 23) hx hb dX5_digestIslands_48 (by decide) ?_
      exact hk23 (((31 : Int64) * y3) + (Int32.toInt64 r6)) y5 (y6 + (1 : Int32)) _ _ _ h hz (lv_sub hl [2, 1, 3, 0] rfl)
  have l23 : ∀ (k5 : Int64 → Int32 → Option (Int64)) (hk5 : (∀ (y3 : Int64) (y5 : Int32) (H : Heap) (locs : List Loc) (ls : Array Slot), k5 y3 y5 = some r → zz (dC, dI) 30 a (wdC cI cZ a σ) s.heap H locs → lv_has ls 7 [(0, .ref (a 0)), (3, .long y3), (5, .int y5)] → W p l e rmX5_digestIslands s m args below meth c H locs 0 0 Q (F0 m 5 ls []))) (n : Nat), ∀ (y3 : Int64) (y5 : Int32) (y6 : Int32) (H : Heap) (locs : List Loc) (ls : Array Slot), fX5_digestIslands_l23 σ k5 n y3 y5 y6 = some r → zz (dC, dI) 30 a (wdC cI cZ a σ) s.heap H locs → lv_has ls 7 [(0, .ref (a 0)), (3, .long y3), (5, .int y5), (6, .int y6)] → W p l e rmX5_digestIslands s m args below meth c H locs 0 0 Q (F0 m 23 ls []) := by
    intro k5 hk5 n
    induction n with
    | zero => intro y3 y5 y6 H locs ls h; exact nomatch h
    | succ n ih => exact s23 k5 hk5 (fX5_digestIslands_l23 σ k5 n) ih
  have s5 : ∀ (k5 : Int64 → Int32 → Option (Int64)) (hk5 : (∀ (y3 : Int64) (y5 : Int32) (H : Heap) (locs : List Loc) (ls : Array Slot), k5 y3 y5 = some r → zz (dC, dI) 30 a (wdC cI cZ a σ) s.heap H locs → lv_has ls 7 [(0, .ref (a 0)), (3, .long y3), (5, .int y5)] → W p l e rmX5_digestIslands s m args below meth c H locs 0 0 Q (F0 m 5 ls []))) (y3 : Int64) (y5 : Int32) (H : Heap) (locs : List Loc) (ls : Array Slot), fX5_digestIslands_s5 σ k5 y3 y5 = some r → zz (dC, dI) 30 a (wdC cI cZ a σ) s.heap H locs → lv_has ls 7 [(0, .ref (a 0)), (3, .long y3), (5, .int y5)] → W p l e rmX5_digestIslands s m args below meth c H locs 0 0 Q (F0 m 5 ls []) := by
    intro k5 hk5 y3 y5 H locs ls h hz hl
    unfold fX5_digestIslands_s5 at h
    refine lv_iload hx hb dX5_digestIslands_5 (lv_at hl 2 rfl) ?_
    refine lv_aload_n hx hb dX5_digestIslands_7 rfl (lv_at hl 0 rfl) ?_
    refine va_get (v := .ref (a 11)) hx hb hts inX5_digestIslands_X5 hown hKK.1 hz.1 0 rfl rfl 4 (by decide) (hts _ (List.mem_of_getElem? (i := 1) rfl)) (fun _ h9 => h9) rfl dX5_digestIslands_8 ?_
    refine va_getN (v := .ref (a 12)) hx hb hts inX5_digestIslands_X2 hown hKK.1 hz.1 11 rfl rfl 2 (by decide) (va_Nw.use rfl hKK.2.2.2.2.2.2.1) (fun _ h9 => h9) rfl dX5_digestIslands_11 ?_
    obtain ⟨r1, e3, h⟩ := bd1_e h
    refine zcallVi (As := []) (rest := [.int y5]) CF hKK (KX4_size_i (dC := dC) (dI := dI) (cI := cI) (cZ := cZ) (a := a) hok e3) (cwV 0 hts gX5_digestIslands_X4_size rfl rfl rfl cdX4_size ⟨Nat.le_of_ble_eq_true rfl, Nat.le_of_ble_eq_true rfl⟩) 12 4 rfl rfl hz rfl hl.1 rfl (Nat.le_of_ble_eq_true rfl) dX5_digestIslands_14 ⟨Nat.le_refl _, Nat.le_refl _⟩ (fun H locs hz => ?_)
    refine lv_icmp_ge (tgt := 57) hx hb dX5_digestIslands_17 (by decide) (fun c4 => ?_) (fun c4 => ?_)
    · replace h := ite_t c4 h
      refine lv_lload_n hx hb dX5_digestIslands_57 rfl (lv_at hl 1 rfl) ?_
      exact rt y3 σ 58 _ _ _ dX5_digestIslands_58 h hz
    · replace h := ite_f c4 h
      refine lv_iconst (v := (0 : Int32)) hx hb dX5_digestIslands_20 (by decide) ?_
      refine lv_istore (lv' := [(6, .int (0 : Int32)), (0, .ref (a 0)), (3, .long y3), (5, .int y5)]) hx hb dX5_digestIslands_21 hl (by decide) rfl (fun ls hl => ?_)
      exact l23 k5 hk5 FU y3 y5 (0 : Int32) _ _ _ h hz (lv_sub hl [1, 2, 3, 0] rfl)
  have l5 : ∀  (n : Nat), ∀ (y3 : Int64) (y5 : Int32) (H : Heap) (locs : List Loc) (ls : Array Slot), fX5_digestIslands_l5 σ  n y3 y5 = some r → zz (dC, dI) 30 a (wdC cI cZ a σ) s.heap H locs → lv_has ls 7 [(0, .ref (a 0)), (3, .long y3), (5, .int y5)] → W p l e rmX5_digestIslands s m args below meth c H locs 0 0 Q (F0 m 5 ls []) := by
    intro  n
    induction n with
    | zero => intro y3 y5 H locs ls h; exact nomatch h
    | succ n ih => exact s5  (fX5_digestIslands_l5 σ  n) ih
  unfold fX5_digestIslands at h
  refine lv_lload_n hx hb dX5_digestIslands_0 rfl (lv_at hl 1 rfl) ?_
  refine lv_lstore_n (lv' := [(3, .long x1), (0, .ref (a 0)), (1, .long x1)]) hx hb dX5_digestIslands_1 rfl hl (by decide) rfl (fun ls hl => ?_)
  refine lv_iconst (v := (0 : Int32)) hx hb dX5_digestIslands_2 (by decide) ?_
  refine lv_istore (lv' := [(5, .int (0 : Int32)), (3, .long x1), (0, .ref (a 0)), (1, .long x1)]) hx hb dX5_digestIslands_3 hl (by decide) rfl (fun ls hl => ?_)
  exact l5  FU x1 (0 : Int32) _ _ _ h hz (lv_sub hl [2, 1, 0] rfl)
def fX5_digestConstants_s23 (σ : St) (k5 : Int64 → Int32 → Option (Int64)) (k23 : Int64 → Int32 → Int32 → Option (Int64)) (y3 : Int64) (y5 : Int32) (y6 : Int32) : Option (Int64) :=
  (if (4 : Int32) ≤ y6 then (k5 y3 (y5 + (1 : Int32))) else ((bd1 (fX5_constant σ y5 y6) fun r6 => k23 (((31 : Int64) * y3) + (Int32.toInt64 r6)) y5 (y6 + (1 : Int32)))))
def fX5_digestConstants_l23 (σ : St) (k5 : Int64 → Int32 → Option (Int64)) : Nat → Int64 → Int32 → Int32 → Option (Int64) :=
  itr (fX5_digestConstants_s23 σ k5) (fun _ _ _ => none)
def fX5_digestConstants_s5 (σ : St) (k5 : Int64 → Int32 → Option (Int64)) (y3 : Int64) (y5 : Int32) : Option (Int64) :=
  (bd1 (fX4_size_c σ ) fun r1 => (if r1 ≤ y5 then (some y3) else (fX5_digestConstants_l23 σ k5 FU y3 y5 (0 : Int32))))
def fX5_digestConstants_l5 (σ : St)  : Nat → Int64 → Int32 → Option (Int64) :=
  itr (fX5_digestConstants_s5 σ ) (fun _ _ => none)
def fX5_digestConstants (σ : St) (x1 : Int64) : Option (Int64) :=
  fX5_digestConstants_l5 σ  FU x1 (0 : Int32)
abbrev rmX5_digestConstants : Room := { frames := 4, cells := 0, slots := 0, locals := 90 }
set_option maxHeartbeats 4000000 in
set_option maxRecDepth 100000 in
theorem KX5_digestConstants {l : Launch} {dC : Nat → ClassId} {dI : Nat → Nat → Nat} {cI cZ : ClassId} {a : Nat → Nat} {σ : St} {x1 : Int64} {r : Int64} (hok : okA 30 a) (h : fX5_digestConstants σ x1 = some r) (sz : Nat) : Met l yX5_digestConstants wsX5_digestConstants rmX5_digestConstants (Pz (dC, dI) cI cZ (wdC cI cZ a σ) sz [.ref (a 0), .long x1]) (Qzl (dC, dI) 30 a (wdC cI cZ a σ) sz r) 0 0 (aN 30 a sz) := by
  refine Met.ofW (cc := cX5_digestConstants) (maxL := 7) (ret := (some .long)) (by decide) rfl ?_
  intro p e s m args below meth c s₁ B hml hv
  obtain ⟨hav, hsz, hP, hKK⟩ := hv
  have hx := B.exec
  have hb := B.bytes
  have hr := B.returns
  have hts := atoms_spec (ws := wsX5_digestConstants) B.pre
  have hown : s.vm.findClass RX5 = some m.cls := findClass_of_methodNamed B.named
  have hlocks := B.notSynchronized
  have CF : CallFix p m c cX5_digestConstants 7 s args wsX5_digestConstants RX5 := ⟨hx, hb, hml, hown, hts⟩
  have hz : zz (dC, dI) 30 a (wdC cI cZ a σ) s.heap s.heap [] := ⟨hP, va_S.rf⟩
  have hl := lv_entry [.ref (a 0), .long x1] (n := 7) (Nat.le_of_ble_eq_true rfl)
  have hen : entryFrame m args 7 = entryFrame m ([.ref (a 0), .long x1] : List Value).toArray 7 := by rw [hav]
  rw [hen, lg_entry_eq]
  generalize (lg_sl [.ref (a 0), .long x1] ++ List.replicate (7 - (lg_sl [.ref (a 0), .long x1]).length) Slot.unset).toArray = ls at hl ⊢
  have hl : lv_has ls 7 [(0, .ref (a 0)), (1, .long x1)] := hl
  have eR : (headSpec wsX5_digestConstants rmX5_digestConstants).room = rmX5_digestConstants := rfl
  rw [eR]
  have rt : ∀ (v : Int64) (t : St) (pc : Nat) (H : Heap) (locs : List Loc) (ls : Array Slot), decode cX5_digestConstants pc = .ok (.lreturn, 1) → some v = some r → zz (dC, dI) 30 a (wdC cI cZ a σ) s.heap H locs → W p l e rmX5_digestConstants s m args below meth c H locs 0 0 (MQ below (Qzl (dC, dI) 30 a (wdC cI cZ a σ) sz r) args s 0 0 (aN 30 a sz)) (F0 m pc ls [.long v]) := by
    intro v t pc H locs ls hd h hz
    cases h
    exact zlret hsz hx hb hr hlocks hz hd
  generalize (MQ below (Qzl (dC, dI) 30 a (wdC cI cZ a σ) sz r) args s 0 0 (aN 30 a sz)) = Q at rt ⊢
  have s23 : ∀ (k5 : Int64 → Int32 → Option (Int64)) (hk5 : (∀ (y3 : Int64) (y5 : Int32) (H : Heap) (locs : List Loc) (ls : Array Slot), k5 y3 y5 = some r → zz (dC, dI) 30 a (wdC cI cZ a σ) s.heap H locs → lv_has ls 7 [(0, .ref (a 0)), (3, .long y3), (5, .int y5)] → W p l e rmX5_digestConstants s m args below meth c H locs 0 0 Q (F0 m 5 ls []))) (k23 : Int64 → Int32 → Int32 → Option (Int64)) (hk23 : (∀ (y3 : Int64) (y5 : Int32) (y6 : Int32) (H : Heap) (locs : List Loc) (ls : Array Slot), k23 y3 y5 y6 = some r → zz (dC, dI) 30 a (wdC cI cZ a σ) s.heap H locs → lv_has ls 7 [(0, .ref (a 0)), (3, .long y3), (5, .int y5), (6, .int y6)] → W p l e rmX5_digestConstants s m args below meth c H locs 0 0 Q (F0 m 23 ls []))) (y3 : Int64) (y5 : Int32) (y6 : Int32) (H : Heap) (locs : List Loc) (ls : Array Slot), fX5_digestConstants_s23 σ k5 k23 y3 y5 y6 = some r → zz (dC, dI) 30 a (wdC cI cZ a σ) s.heap H locs → lv_has ls 7 [(0, .ref (a 0)), (3, .long y3), (5, .int y5), (6, .int y6)] → W p l e rmX5_digestConstants s m args below meth c H locs 0 0 Q (F0 m 23 ls []) := by
    intro k5 hk5 k23 hk23 y3 y5 y6 H locs ls h hz hl
    unfold fX5_digestConstants_s23 at h
    refine lv_iload hx hb dX5_digestConstants_23 (lv_at hl 3 rfl) ?_
    refine lv_iconst (v := (4 : Int32)) hx hb dX5_digestConstants_25 (by decide) ?_
    refine lv_icmp_ge (tgt := 51) hx hb dX5_digestConstants_26 (by decide) (fun c5 => ?_) (fun c5 => ?_)
    · replace h := ite_t c5 h
      refine lv_iinc (v := (y5 + (1 : Int32))) (lv' := [(5, .int (y5 + (1 : Int32))), (0, .ref (a 0)), (3, .long y3), (6, .int y6)]) hx hb dX5_digestConstants_51 hl (k := 2) rfl rfl (by decide) rfl (fun ls hl => ?_)
      refine lv_goto (tgt := 5) hx hb dX5_digestConstants_54 (by decide) ?_
      exact hk5 y3 (y5 + (1 : Int32)) _ _ _ h hz (lv_sub hl [1, 2, 0] rfl)
    · replace h := ite_f c5 h
      refine lv_ldc2 (v := (31 : Int64)) hx hb hown (hts _ (List.mem_of_getElem? (i := 2) rfl)) dX5_digestConstants_29 ?_
      refine lv_lload_n hx hb dX5_digestConstants_32 rfl (lv_at hl 1 rfl) ?_
      refine lv_lmul hx hb dX5_digestConstants_33 ?_
      refine lv_aload_n hx hb dX5_digestConstants_34 rfl (lv_at hl 0 rfl) ?_
      refine lv_iload hx hb dX5_digestConstants_35 (lv_at hl 2 rfl) ?_
      refine lv_iload hx hb dX5_digestConstants_37 (lv_at hl 3 rfl) ?_
      obtain ⟨r6, e8, h⟩ := bd1_e h
      refine zcallVi (As := [.int y5, .int y6]) (rest := [.long ((31 : Int64) * y3)]) CF hKK (KX5_constant (dC := dC) (dI := dI) (cI := cI) (cZ := cZ) (a := a) hok e8) (cwV 2 hts gX5_digestConstants_X5_constant rfl rfl rfl cdX5_constant ⟨Nat.le_of_ble_eq_true rfl, Nat.le_of_ble_eq_true rfl⟩) 0 5 rfl rfl hz rfl hl.1 rfl (Nat.le_of_ble_eq_true rfl) dX5_digestConstants_39 ⟨Nat.le_refl _, Nat.le_refl _⟩ (fun H locs hz => ?_)
      refine lv_i2l (v := (Int32.toInt64 r6)) hx hb dX5_digestConstants_42 rfl ?_
      refine lv_ladd hx hb dX5_digestConstants_43 ?_
      refine lv_lstore_n (lv' := [(3, .long (((31 : Int64) * y3) + (Int32.toInt64 r6))), (0, .ref (a 0)), (5, .int y5), (6, .int y6)]) hx hb dX5_digestConstants_44 rfl hl (by decide) rfl (fun ls hl => ?_)
      refine lv_iinc (v := (y6 + (1 : Int32))) (lv' := [(6, .int (y6 + (1 : Int32))), (3, .long (((31 : Int64) * y3) + (Int32.toInt64 r6))), (0, .ref (a 0)), (5, .int y5)]) hx hb dX5_digestConstants_45 hl (k := 3) rfl rfl (by decide) rfl (fun ls hl => ?_)
      refine lv_goto (tgt := 23) hx hb dX5_digestConstants_48 (by decide) ?_
      exact hk23 (((31 : Int64) * y3) + (Int32.toInt64 r6)) y5 (y6 + (1 : Int32)) _ _ _ h hz (lv_sub hl [2, 1, 3, 0] rfl)
  have l23 : ∀ (k5 : Int64 → Int32 → Option (Int64)) (hk5 : (∀ (y3 : Int64) (y5 : Int32) (H : Heap) (locs : List Loc) (ls : Array Slot), k5 y3 y5 = some r → zz (dC, dI) 30 a (wdC cI cZ a σ) s.heap H locs → lv_has ls 7 [(0, .ref (a 0)), (3, .long y3), (5, .int y5)] → W p l e rmX5_digestConstants s m args below meth c H locs 0 0 Q (F0 m 5 ls []))) (n : Nat), ∀ (y3 : Int64) (y5 : Int32) (y6 : Int32) (H : Heap) (locs : List Loc) (ls : Array Slot), fX5_digestConstants_l23 σ k5 n y3 y5 y6 = some r → zz (dC, dI) 30 a (wdC cI cZ a σ) s.heap H locs → lv_has ls 7 [(0, .ref (a 0)), (3, .long y3), (5, .int y5), (6, .int y6)] → W p l e rmX5_digestConstants s m args below meth c H locs 0 0 Q (F0 m 23 ls []) := by
    intro k5 hk5 n
    induction n with
    | zero => intro y3 y5 y6 H locs ls h; exact nomatch h
    | succ n ih => exact s23 k5 hk5 (fX5_digestConstants_l23 σ k5 n) ih
  have s5 : ∀ (k5 : Int64 → Int32 → Option (Int64)) (hk5 : (∀ (y3 : Int64) (y5 : Int32) (H : Heap) (locs : List Loc) (ls : Array Slot), k5 y3 y5 = some r → zz (dC, dI) 30 a (wdC cI cZ a σ) s.heap H locs → lv_has ls 7 [(0, .ref (a 0)), (3, .long y3), (5, .int y5)] → W p l e rmX5_digestConstants s m args below meth c H locs 0 0 Q (F0 m 5 ls []))) (y3 : Int64) (y5 : Int32) (H : Heap) (locs : List Loc) (ls : Array Slot), fX5_digestConstants_s5 σ k5 y3 y5 = some r → zz (dC, dI) 30 a (wdC cI cZ a σ) s.heap H locs → lv_has ls 7 [(0, .ref (a 0)), (3, .long y3), (5, .int y5)] → W p l e rmX5_digestConstants s m args below meth c H locs 0 0 Q (F0 m 5 ls []) := by
    intro k5 hk5 y3 y5 H locs ls h hz hl
    unfold fX5_digestConstants_s5 at h
    refine lv_iload hx hb dX5_digestConstants_5 (lv_at hl 2 rfl) ?_
    refine lv_aload_n hx hb dX5_digestConstants_7 rfl (lv_at hl 0 rfl) ?_
    refine va_get (v := .ref (a 11)) hx hb hts inX5_digestConstants_X5 hown hKK.1 hz.1 0 rfl rfl 4 (by decide) (hts _ (List.mem_of_getElem? (i := 1) rfl)) (fun _ h9 => h9) rfl dX5_digestConstants_8 ?_
    refine va_getN (v := .ref (a 18)) hx hb hts inX5_digestConstants_X2 hown hKK.1 hz.1 11 rfl rfl 3 (by decide) (va_Nw.use rfl hKK.2.2.2.2.2.2.2.1) (fun _ h9 => h9) rfl dX5_digestConstants_11 ?_
    obtain ⟨r1, e3, h⟩ := bd1_e h
    refine zcallVi (As := []) (rest := [.int y5]) CF hKK (KX4_size_c (dC := dC) (dI := dI) (cI := cI) (cZ := cZ) (a := a) hok e3) (cwV 0 hts gX5_digestConstants_X4_size rfl rfl rfl cdX4_size ⟨Nat.le_of_ble_eq_true rfl, Nat.le_of_ble_eq_true rfl⟩) 18 4 rfl rfl hz rfl hl.1 rfl (Nat.le_of_ble_eq_true rfl) dX5_digestConstants_14 ⟨Nat.le_refl _, Nat.le_refl _⟩ (fun H locs hz => ?_)
    refine lv_icmp_ge (tgt := 57) hx hb dX5_digestConstants_17 (by decide) (fun c4 => ?_) (fun c4 => ?_)
    · replace h := ite_t c4 h
      refine lv_lload_n hx hb dX5_digestConstants_57 rfl (lv_at hl 1 rfl) ?_
      exact rt y3 σ 58 _ _ _ dX5_digestConstants_58 h hz
    · replace h := ite_f c4 h
      refine lv_iconst (v := (0 : Int32)) hx hb dX5_digestConstants_20 (by decide) ?_
      refine lv_istore (lv' := [(6, .int (0 : Int32)), (0, .ref (a 0)), (3, .long y3), (5, .int y5)]) hx hb dX5_digestConstants_21 hl (by decide) rfl (fun ls hl => ?_)
      exact l23 k5 hk5 FU y3 y5 (0 : Int32) _ _ _ h hz (lv_sub hl [1, 2, 3, 0] rfl)
  have l5 : ∀  (n : Nat), ∀ (y3 : Int64) (y5 : Int32) (H : Heap) (locs : List Loc) (ls : Array Slot), fX5_digestConstants_l5 σ  n y3 y5 = some r → zz (dC, dI) 30 a (wdC cI cZ a σ) s.heap H locs → lv_has ls 7 [(0, .ref (a 0)), (3, .long y3), (5, .int y5)] → W p l e rmX5_digestConstants s m args below meth c H locs 0 0 Q (F0 m 5 ls []) := by
    intro  n
    induction n with
    | zero => intro y3 y5 H locs ls h; exact nomatch h
    | succ n ih => exact s5  (fX5_digestConstants_l5 σ  n) ih
  unfold fX5_digestConstants at h
  refine lv_lload_n hx hb dX5_digestConstants_0 rfl (lv_at hl 1 rfl) ?_
  refine lv_lstore_n (lv' := [(3, .long x1), (0, .ref (a 0)), (1, .long x1)]) hx hb dX5_digestConstants_1 rfl hl (by decide) rfl (fun ls hl => ?_)
  refine lv_iconst (v := (0 : Int32)) hx hb dX5_digestConstants_2 (by decide) ?_
  refine lv_istore (lv' := [(5, .int (0 : Int32)), (3, .long x1), (0, .ref (a 0)), (1, .long x1)]) hx hb dX5_digestConstants_3 hl (by decide) rfl (fun ls hl => ?_)
  exact l5  FU x1 (0 : Int32) _ _ _ h hz (lv_sub hl [2, 1, 0] rfl)
def fX5_digest_s84 (σ : St) (k84 : Int64 → Int32 → Option (Int64)) (y1 : Int64) (y3 : Int32) : Option (Int64) :=
  (if (8 : Int32) ≤ y3 then (some y1) else ((bd1 (fX5_count σ y3) fun r16 => k84 (((31 : Int64) * y1) + (Int32.toInt64 r16)) (y3 + (1 : Int32)))))
def fX5_digest_l84 (σ : St)  : Nat → Int64 → Int32 → Option (Int64) :=
  itr (fX5_digest_s84 σ ) (fun _ _ => none)
def fX5_digest_s49 (σ : St) (k49 : Int64 → Int32 → Option (Int64)) (y1 : Int64) (y3 : Int32) : Option (Int64) :=
  (bd1 (fX1_length σ ) fun r11 => (if r11 ≤ y3 then (fX5_digest_l84 σ  FU y1 (0 : Int32)) else ((bd1 (fX1_letterAt σ y3) fun r19 => k49 (((31 : Int64) * y1) + (Int32.toInt64 r19)) (y3 + (1 : Int32))))))
def fX5_digest_l49 (σ : St)  : Nat → Int64 → Int32 → Option (Int64) :=
  itr (fX5_digest_s49 σ ) (fun _ _ => none)
def fX5_digest_s22 (σ : St) (k22 : Int64 → Int32 → Option (Int64)) (y1 : Int64) (y3 : Int32) : Option (Int64) :=
  (if (9 : Int32) ≤ y3 then (fX5_digest_l49 σ  FU y1 (0 : Int32)) else ((bd1 (fX5_placed σ y3) fun r22 => k22 (((31 : Int64) * y1) + (Int32.toInt64 r22)) (y3 + (1 : Int32)))))
def fX5_digest_l22 (σ : St)  : Nat → Int64 → Int32 → Option (Int64) :=
  itr (fX5_digest_s22 σ ) (fun _ _ => none)
def fX5_digest (σ : St)  : Option (Int64) :=
  (bd1 (fX5_digestItems σ (1637 : Int64)) fun r1 => (bd1 (fX5_digestIslands σ r1) fun r4 => (bd1 (fX5_digestConstants σ r4) fun r7 => fX5_digest_l22 σ  FU r7 (0 : Int32))))
abbrev rmX5_digest : Room := { frames := 5, cells := 0, slots := 0, locals := 116 }
set_option maxHeartbeats 4000000 in
set_option maxRecDepth 100000 in
theorem KX5_digest {l : Launch} {dC : Nat → ClassId} {dI : Nat → Nat → Nat} {cI cZ : ClassId} {a : Nat → Nat} {σ : St}  {r : Int64} (hok : okA 30 a) (h : fX5_digest σ  = some r) (sz : Nat) : Met l yX5_digest wsX5_digest rmX5_digest (Pz (dC, dI) cI cZ (wdC cI cZ a σ) sz [.ref (a 0)]) (Qzl (dC, dI) 30 a (wdC cI cZ a σ) sz r) 0 0 (aN 30 a sz) := by
  refine Met.ofW (cc := cX5_digest) (maxL := 4) (ret := (some .long)) (by decide) rfl ?_
  intro p e s m args below meth c s₁ B hml hv
  obtain ⟨hav, hsz, hP, hKK⟩ := hv
  have hx := B.exec
  have hb := B.bytes
  have hr := B.returns
  have hts := atoms_spec (ws := wsX5_digest) B.pre
  have hown : s.vm.findClass RX5 = some m.cls := findClass_of_methodNamed B.named
  have hlocks := B.notSynchronized
  have CF : CallFix p m c cX5_digest 4 s args wsX5_digest RX5 := ⟨hx, hb, hml, hown, hts⟩
  have hz : zz (dC, dI) 30 a (wdC cI cZ a σ) s.heap s.heap [] := ⟨hP, va_S.rf⟩
  have hl := lv_entry [.ref (a 0)] (n := 4) (Nat.le_of_ble_eq_true rfl)
  have hen : entryFrame m args 4 = entryFrame m ([.ref (a 0)] : List Value).toArray 4 := by rw [hav]
  rw [hen, lg_entry_eq]
  generalize (lg_sl [.ref (a 0)] ++ List.replicate (4 - (lg_sl [.ref (a 0)]).length) Slot.unset).toArray = ls at hl ⊢
  have hl : lv_has ls 4 [(0, .ref (a 0))] := hl
  have eR : (headSpec wsX5_digest rmX5_digest).room = rmX5_digest := rfl
  rw [eR]
  have rt : ∀ (v : Int64) (t : St) (pc : Nat) (H : Heap) (locs : List Loc) (ls : Array Slot), decode cX5_digest pc = .ok (.lreturn, 1) → some v = some r → zz (dC, dI) 30 a (wdC cI cZ a σ) s.heap H locs → W p l e rmX5_digest s m args below meth c H locs 0 0 (MQ below (Qzl (dC, dI) 30 a (wdC cI cZ a σ) sz r) args s 0 0 (aN 30 a sz)) (F0 m pc ls [.long v]) := by
    intro v t pc H locs ls hd h hz
    cases h
    exact zlret hsz hx hb hr hlocks hz hd
  generalize (MQ below (Qzl (dC, dI) 30 a (wdC cI cZ a σ) sz r) args s 0 0 (aN 30 a sz)) = Q at rt ⊢
  have s84 : ∀ (k84 : Int64 → Int32 → Option (Int64)) (hk84 : (∀ (y1 : Int64) (y3 : Int32) (H : Heap) (locs : List Loc) (ls : Array Slot), k84 y1 y3 = some r → zz (dC, dI) 30 a (wdC cI cZ a σ) s.heap H locs → lv_has ls 4 [(0, .ref (a 0)), (1, .long y1), (3, .int y3)] → W p l e rmX5_digest s m args below meth c H locs 0 0 Q (F0 m 84 ls []))) (y1 : Int64) (y3 : Int32) (H : Heap) (locs : List Loc) (ls : Array Slot), fX5_digest_s84 σ k84 y1 y3 = some r → zz (dC, dI) 30 a (wdC cI cZ a σ) s.heap H locs → lv_has ls 4 [(0, .ref (a 0)), (1, .long y1), (3, .int y3)] → W p l e rmX5_digest s m args below meth c H locs 0 0 Q (F0 m 84 ls []) := by
    intro k84 hk84 y1 y3 H locs ls h hz hl
    unfold fX5_digest_s84 at h
    refine lv_iload_n hx hb dX5_digest_84 rfl (lv_at hl 2 rfl) ?_
    refine lv_bipush (v := (8 : Int32)) hx hb dX5_digest_85 (by decide) ?_
    refine lv_icmp_ge (tgt := 109) hx hb dX5_digest_87 (by decide) (fun c15 => ?_) (fun c15 => ?_)
    · replace h := ite_t c15 h
      refine lv_lload_n hx hb dX5_digest_109 rfl (lv_at hl 1 rfl) ?_
      exact rt y1 σ 110 _ _ _ dX5_digest_110 h hz
    · replace h := ite_f c15 h
      refine lv_ldc2 (v := (31 : Int64)) hx hb hown (hts _ (List.mem_of_getElem? (i := 2) rfl)) dX5_digest_90 ?_
      refine lv_lload_n hx hb dX5_digest_93 rfl (lv_at hl 1 rfl) ?_
      refine lv_lmul hx hb dX5_digest_94 ?_
      refine lv_aload_n hx hb dX5_digest_95 rfl (lv_at hl 0 rfl) ?_
      refine lv_iload_n hx hb dX5_digest_96 rfl (lv_at hl 2 rfl) ?_
      obtain ⟨r16, e18, h⟩ := bd1_e h
      refine zcallVi (As := [.int y3]) (rest := [.long ((31 : Int64) * y1)]) CF hKK (KX5_count (dC := dC) (dI := dI) (cI := cI) (cZ := cZ) (a := a) hok e18) (cwV 1 hts gX5_digest_X5_count rfl rfl rfl cdX5_count ⟨Nat.le_of_ble_eq_true rfl, Nat.le_of_ble_eq_true rfl⟩) 0 5 rfl rfl hz rfl hl.1 rfl (Nat.le_of_ble_eq_true rfl) dX5_digest_97 ⟨Nat.le_refl _, Nat.le_refl _⟩ (fun H locs hz => ?_)
      refine lv_i2l (v := (Int32.toInt64 r16)) hx hb dX5_digest_100 rfl ?_
      refine lv_ladd hx hb dX5_digest_101 ?_
      refine lv_lstore_n (lv' := [(1, .long (((31 : Int64) * y1) + (Int32.toInt64 r16))), (0, .ref (a 0)), (3, .int y3)]) hx hb dX5_digest_102 rfl hl (by decide) rfl (fun ls hl => ?_)
      refine lv_iinc (v := (y3 + (1 : Int32))) (lv' := [(3, .int (y3 + (1 : Int32))), (1, .long (((31 : Int64) * y1) + (Int32.toInt64 r16))), (0, .ref (a 0))]) hx hb dX5_digest_103 hl (k := 2) rfl rfl (by decide) rfl (fun ls hl => ?_)
      refine lv_goto (tgt := 84) hx hb dX5_digest_106 (by decide) ?_
      exact hk84 (((31 : Int64) * y1) + (Int32.toInt64 r16)) (y3 + (1 : Int32)) _ _ _ h hz (lv_sub hl [2, 1, 0] rfl)
  have l84 : ∀  (n : Nat), ∀ (y1 : Int64) (y3 : Int32) (H : Heap) (locs : List Loc) (ls : Array Slot), fX5_digest_l84 σ  n y1 y3 = some r → zz (dC, dI) 30 a (wdC cI cZ a σ) s.heap H locs → lv_has ls 4 [(0, .ref (a 0)), (1, .long y1), (3, .int y3)] → W p l e rmX5_digest s m args below meth c H locs 0 0 Q (F0 m 84 ls []) := by
    intro  n
    induction n with
    | zero => intro y1 y3 H locs ls h; exact nomatch h
    | succ n ih => exact s84  (fX5_digest_l84 σ  n) ih
  have s49 : ∀ (k49 : Int64 → Int32 → Option (Int64)) (hk49 : (∀ (y1 : Int64) (y3 : Int32) (H : Heap) (locs : List Loc) (ls : Array Slot), k49 y1 y3 = some r → zz (dC, dI) 30 a (wdC cI cZ a σ) s.heap H locs → lv_has ls 4 [(0, .ref (a 0)), (1, .long y1), (3, .int y3)] → W p l e rmX5_digest s m args below meth c H locs 0 0 Q (F0 m 49 ls []))) (y1 : Int64) (y3 : Int32) (H : Heap) (locs : List Loc) (ls : Array Slot), fX5_digest_s49 σ k49 y1 y3 = some r → zz (dC, dI) 30 a (wdC cI cZ a σ) s.heap H locs → lv_has ls 4 [(0, .ref (a 0)), (1, .long y1), (3, .int y3)] → W p l e rmX5_digest s m args below meth c H locs 0 0 Q (F0 m 49 ls []) := by
    intro k49 hk49 y1 y3 H locs ls h hz hl
    unfold fX5_digest_s49 at h
    refine lv_iload_n hx hb dX5_digest_49 rfl (lv_at hl 2 rfl) ?_
    refine lv_aload_n hx hb dX5_digest_50 rfl (lv_at hl 0 rfl) ?_
    refine va_get (v := .ref (a 1)) hx hb hts inX5_digest_X5 hown hKK.1 hz.1 0 rfl rfl 0 (by decide) (hts _ (List.mem_of_getElem? (i := 3) rfl)) (fun _ h9 => h9) rfl dX5_digest_51 ?_
    obtain ⟨r11, e13, h⟩ := bd1_e h
    refine zcallVi (As := []) (rest := [.int y3]) CF hKK (KX1_length (dC := dC) (dI := dI) (cI := cI) (cZ := cZ) (a := a) hok e13) (cwV 0 hts gX5_digest_X1_length rfl rfl rfl cdX1_length ⟨Nat.le_of_ble_eq_true rfl, Nat.le_of_ble_eq_true rfl⟩) 1 1 rfl rfl hz rfl hl.1 rfl (Nat.le_of_ble_eq_true rfl) dX5_digest_54 ⟨Nat.le_refl _, Nat.le_refl _⟩ (fun H locs hz => ?_)
    refine lv_icmp_ge (tgt := 82) hx hb dX5_digest_57 (by decide) (fun c14 => ?_) (fun c14 => ?_)
    · replace h := ite_t c14 h
      refine lv_iconst (v := (0 : Int32)) hx hb dX5_digest_82 (by decide) ?_
      refine lv_istore_n (lv' := [(3, .int (0 : Int32)), (0, .ref (a 0)), (1, .long y1)]) hx hb dX5_digest_83 rfl hl (by decide) rfl (fun ls hl => ?_)
      exact l84  FU y1 (0 : Int32) _ _ _ h hz (lv_sub hl [1, 2, 0] rfl)
    · replace h := ite_f c14 h
      refine lv_ldc2 (v := (31 : Int64)) hx hb hown (hts _ (List.mem_of_getElem? (i := 2) rfl)) dX5_digest_60 ?_
      refine lv_lload_n hx hb dX5_digest_63 rfl (lv_at hl 1 rfl) ?_
      refine lv_lmul hx hb dX5_digest_64 ?_
      refine lv_aload_n hx hb dX5_digest_65 rfl (lv_at hl 0 rfl) ?_
      refine va_get (v := .ref (a 1)) hx hb hts inX5_digest_X5 hown hKK.1 hz.1 0 rfl rfl 0 (by decide) (hts _ (List.mem_of_getElem? (i := 3) rfl)) (fun _ h9 => h9) rfl dX5_digest_66 ?_
      refine lv_iload_n hx hb dX5_digest_69 rfl (lv_at hl 2 rfl) ?_
      obtain ⟨r19, e21, h⟩ := bd1_e h
      refine zcallVi (As := [.int y3]) (rest := [.long ((31 : Int64) * y1)]) CF hKK (KX1_letterAt (dC := dC) (dI := dI) (cI := cI) (cZ := cZ) (a := a) hok e21) (cwV 1 hts gX5_digest_X1_letterAt rfl rfl rfl cdX1_letterAt ⟨Nat.le_of_ble_eq_true rfl, Nat.le_of_ble_eq_true rfl⟩) 1 1 rfl rfl hz rfl hl.1 rfl (Nat.le_of_ble_eq_true rfl) dX5_digest_70 ⟨Nat.le_refl _, Nat.le_refl _⟩ (fun H locs hz => ?_)
      refine lv_i2l (v := (Int32.toInt64 r19)) hx hb dX5_digest_73 rfl ?_
      refine lv_ladd hx hb dX5_digest_74 ?_
      refine lv_lstore_n (lv' := [(1, .long (((31 : Int64) * y1) + (Int32.toInt64 r19))), (0, .ref (a 0)), (3, .int y3)]) hx hb dX5_digest_75 rfl hl (by decide) rfl (fun ls hl => ?_)
      refine lv_iinc (v := (y3 + (1 : Int32))) (lv' := [(3, .int (y3 + (1 : Int32))), (1, .long (((31 : Int64) * y1) + (Int32.toInt64 r19))), (0, .ref (a 0))]) hx hb dX5_digest_76 hl (k := 2) rfl rfl (by decide) rfl (fun ls hl => ?_)
      refine lv_goto (tgt := 49) hx hb dX5_digest_79 (by decide) ?_
      exact hk49 (((31 : Int64) * y1) + (Int32.toInt64 r19)) (y3 + (1 : Int32)) _ _ _ h hz (lv_sub hl [2, 1, 0] rfl)
  have l49 : ∀  (n : Nat), ∀ (y1 : Int64) (y3 : Int32) (H : Heap) (locs : List Loc) (ls : Array Slot), fX5_digest_l49 σ  n y1 y3 = some r → zz (dC, dI) 30 a (wdC cI cZ a σ) s.heap H locs → lv_has ls 4 [(0, .ref (a 0)), (1, .long y1), (3, .int y3)] → W p l e rmX5_digest s m args below meth c H locs 0 0 Q (F0 m 49 ls []) := by
    intro  n
    induction n with
    | zero => intro y1 y3 H locs ls h; exact nomatch h
    | succ n ih => exact s49  (fX5_digest_l49 σ  n) ih
  have s22 : ∀ (k22 : Int64 → Int32 → Option (Int64)) (hk22 : (∀ (y1 : Int64) (y3 : Int32) (H : Heap) (locs : List Loc) (ls : Array Slot), k22 y1 y3 = some r → zz (dC, dI) 30 a (wdC cI cZ a σ) s.heap H locs → lv_has ls 4 [(0, .ref (a 0)), (1, .long y1), (3, .int y3)] → W p l e rmX5_digest s m args below meth c H locs 0 0 Q (F0 m 22 ls []))) (y1 : Int64) (y3 : Int32) (H : Heap) (locs : List Loc) (ls : Array Slot), fX5_digest_s22 σ k22 y1 y3 = some r → zz (dC, dI) 30 a (wdC cI cZ a σ) s.heap H locs → lv_has ls 4 [(0, .ref (a 0)), (1, .long y1), (3, .int y3)] → W p l e rmX5_digest s m args below meth c H locs 0 0 Q (F0 m 22 ls []) := by
    intro k22 hk22 y1 y3 H locs ls h hz hl
    unfold fX5_digest_s22 at h
    refine lv_iload_n hx hb dX5_digest_22 rfl (lv_at hl 2 rfl) ?_
    refine lv_bipush (v := (9 : Int32)) hx hb dX5_digest_23 (by decide) ?_
    refine lv_icmp_ge (tgt := 47) hx hb dX5_digest_25 (by decide) (fun c10 => ?_) (fun c10 => ?_)
    · replace h := ite_t c10 h
      refine lv_iconst (v := (0 : Int32)) hx hb dX5_digest_47 (by decide) ?_
      refine lv_istore_n (lv' := [(3, .int (0 : Int32)), (0, .ref (a 0)), (1, .long y1)]) hx hb dX5_digest_48 rfl hl (by decide) rfl (fun ls hl => ?_)
      exact l49  FU y1 (0 : Int32) _ _ _ h hz (lv_sub hl [1, 2, 0] rfl)
    · replace h := ite_f c10 h
      refine lv_ldc2 (v := (31 : Int64)) hx hb hown (hts _ (List.mem_of_getElem? (i := 2) rfl)) dX5_digest_28 ?_
      refine lv_lload_n hx hb dX5_digest_31 rfl (lv_at hl 1 rfl) ?_
      refine lv_lmul hx hb dX5_digest_32 ?_
      refine lv_aload_n hx hb dX5_digest_33 rfl (lv_at hl 0 rfl) ?_
      refine lv_iload_n hx hb dX5_digest_34 rfl (lv_at hl 2 rfl) ?_
      obtain ⟨r22, e24, h⟩ := bd1_e h
      refine zcallVi (As := [.int y3]) (rest := [.long ((31 : Int64) * y1)]) CF hKK (KX5_placed (dC := dC) (dI := dI) (cI := cI) (cZ := cZ) (a := a) hok e24) (cwV 1 hts gX5_digest_X5_placed rfl rfl rfl cdX5_placed ⟨Nat.le_of_ble_eq_true rfl, Nat.le_of_ble_eq_true rfl⟩) 0 5 rfl rfl hz rfl hl.1 rfl (Nat.le_of_ble_eq_true rfl) dX5_digest_35 ⟨Nat.le_refl _, Nat.le_refl _⟩ (fun H locs hz => ?_)
      refine lv_i2l (v := (Int32.toInt64 r22)) hx hb dX5_digest_38 rfl ?_
      refine lv_ladd hx hb dX5_digest_39 ?_
      refine lv_lstore_n (lv' := [(1, .long (((31 : Int64) * y1) + (Int32.toInt64 r22))), (0, .ref (a 0)), (3, .int y3)]) hx hb dX5_digest_40 rfl hl (by decide) rfl (fun ls hl => ?_)
      refine lv_iinc (v := (y3 + (1 : Int32))) (lv' := [(3, .int (y3 + (1 : Int32))), (1, .long (((31 : Int64) * y1) + (Int32.toInt64 r22))), (0, .ref (a 0))]) hx hb dX5_digest_41 hl (k := 2) rfl rfl (by decide) rfl (fun ls hl => ?_)
      refine lv_goto (tgt := 22) hx hb dX5_digest_44 (by decide) ?_
      exact hk22 (((31 : Int64) * y1) + (Int32.toInt64 r22)) (y3 + (1 : Int32)) _ _ _ h hz (lv_sub hl [2, 1, 0] rfl)
  have l22 : ∀  (n : Nat), ∀ (y1 : Int64) (y3 : Int32) (H : Heap) (locs : List Loc) (ls : Array Slot), fX5_digest_l22 σ  n y1 y3 = some r → zz (dC, dI) 30 a (wdC cI cZ a σ) s.heap H locs → lv_has ls 4 [(0, .ref (a 0)), (1, .long y1), (3, .int y3)] → W p l e rmX5_digest s m args below meth c H locs 0 0 Q (F0 m 22 ls []) := by
    intro  n
    induction n with
    | zero => intro y1 y3 H locs ls h; exact nomatch h
    | succ n ih => exact s22  (fX5_digest_l22 σ  n) ih
  unfold fX5_digest at h
  refine lv_aload_n hx hb dX5_digest_0 rfl (lv_at hl 0 rfl) ?_
  refine lv_ldc2 (v := (1637 : Int64)) hx hb hown (hts _ (List.mem_of_getElem? (i := 1) rfl)) dX5_digest_1 ?_
  obtain ⟨r1, e3, h⟩ := bd1_e h
  refine zcallVl (As := [.long (1637 : Int64)]) (rest := []) CF hKK (KX5_digestItems (dC := dC) (dI := dI) (cI := cI) (cZ := cZ) (a := a) hok e3) (cwV 1 hts gX5_digest_X5_digestItems rfl rfl rfl cdX5_digestItems ⟨Nat.le_of_ble_eq_true rfl, Nat.le_of_ble_eq_true rfl⟩) 0 5 rfl rfl hz rfl hl.1 rfl (Nat.le_of_ble_eq_true rfl) dX5_digest_4 ⟨Nat.le_refl _, Nat.le_refl _⟩ (fun H locs hz => ?_)
  refine lv_lstore_n (lv' := [(1, .long r1), (0, .ref (a 0))]) hx hb dX5_digest_7 rfl hl (by decide) rfl (fun ls hl => ?_)
  refine lv_aload_n hx hb dX5_digest_8 rfl (lv_at hl 1 rfl) ?_
  refine lv_lload_n hx hb dX5_digest_9 rfl (lv_at hl 0 rfl) ?_
  obtain ⟨r4, e6, h⟩ := bd1_e h
  refine zcallVl (As := [.long r1]) (rest := []) CF hKK (KX5_digestIslands (dC := dC) (dI := dI) (cI := cI) (cZ := cZ) (a := a) hok e6) (cwV 1 hts gX5_digest_X5_digestIslands rfl rfl rfl cdX5_digestIslands ⟨Nat.le_of_ble_eq_true rfl, Nat.le_of_ble_eq_true rfl⟩) 0 5 rfl rfl hz rfl hl.1 rfl (Nat.le_of_ble_eq_true rfl) dX5_digest_10 ⟨Nat.le_refl _, Nat.le_refl _⟩ (fun H locs hz => ?_)
  refine lv_lstore_n (lv' := [(1, .long r4), (0, .ref (a 0))]) hx hb dX5_digest_13 rfl hl (by decide) rfl (fun ls hl => ?_)
  refine lv_aload_n hx hb dX5_digest_14 rfl (lv_at hl 1 rfl) ?_
  refine lv_lload_n hx hb dX5_digest_15 rfl (lv_at hl 0 rfl) ?_
  obtain ⟨r7, e9, h⟩ := bd1_e h
  refine zcallVl (As := [.long r4]) (rest := []) CF hKK (KX5_digestConstants (dC := dC) (dI := dI) (cI := cI) (cZ := cZ) (a := a) hok e9) (cwV 1 hts gX5_digest_X5_digestConstants rfl rfl rfl cdX5_digestConstants ⟨Nat.le_of_ble_eq_true rfl, Nat.le_of_ble_eq_true rfl⟩) 0 5 rfl rfl hz rfl hl.1 rfl (Nat.le_of_ble_eq_true rfl) dX5_digest_16 ⟨Nat.le_refl _, Nat.le_refl _⟩ (fun H locs hz => ?_)
  refine lv_lstore_n (lv' := [(1, .long r7), (0, .ref (a 0))]) hx hb dX5_digest_19 rfl hl (by decide) rfl (fun ls hl => ?_)
  refine lv_iconst (v := (0 : Int32)) hx hb dX5_digest_20 (by decide) ?_
  refine lv_istore_n (lv' := [(3, .int (0 : Int32)), (1, .long r7), (0, .ref (a 0))]) hx hb dX5_digest_21 rfl hl (by decide) rfl (fun ls hl => ?_)
  exact l22  FU r7 (0 : Int32) _ _ _ h hz (lv_sub hl [2, 1, 0] rfl)
