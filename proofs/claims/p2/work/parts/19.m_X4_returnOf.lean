def fX4_returnOf_i (σ : St) (x1 : Int32) : Option (Int32) :=
  (bd1 (fX4_has_i σ x1) fun r1 => (if r1 = 0 then (some (-1 : Int32)) else ((ck (¬ (x1 < 0 ∨ 12 ≤ Int32.toNatClampNeg x1)) <| some ((σ 14) (Int32.toNatClampNeg x1))))))
abbrev rmX4_returnOf_i : Room := { frames := 1, cells := 0, slots := 0, locals := 21 }
set_option maxHeartbeats 4000000 in
set_option maxRecDepth 100000 in
theorem KX4_returnOf_i {l : Launch} {dC : Nat → ClassId} {dI : Nat → Nat → Nat} {cI cZ : ClassId} {a : Nat → Nat} {σ : St} {x1 : Int32} {r : Int32} (hok : okA 30 a) (h : fX4_returnOf_i σ x1 = some r) (sz : Nat) : Met l yX4_returnOf wsX4_returnOf rmX4_returnOf_i (Pz (dC, dI) cI cZ (wdC cI cZ a σ) sz [.ref (a 12), .int x1]) (Qzi (dC, dI) 30 a (wdC cI cZ a σ) sz r) 0 0 (aN 30 a sz) := by
  refine Met.ofW (cc := cX4_returnOf) (maxL := 2) (ret := (some .int)) (by decide) rfl ?_
  intro p e s m args below meth c s₁ B hml hv
  obtain ⟨hav, hsz, hP, hKK⟩ := hv
  have hx := B.exec
  have hb := B.bytes
  have hr := B.returns
  have hts := atoms_spec (ws := wsX4_returnOf) B.pre
  have hown : s.vm.findClass RX4 = some m.cls := findClass_of_methodNamed B.named
  have hlocks := B.notSynchronized
  have CF : CallFix p m c cX4_returnOf 2 s args wsX4_returnOf RX4 := ⟨hx, hb, hml, hown, hts⟩
  have hz : zz (dC, dI) 30 a (wdC cI cZ a σ) s.heap s.heap [] := ⟨hP, va_S.rf⟩
  have hl := lv_entry [.ref (a 12), .int x1] (n := 2) (Nat.le_of_ble_eq_true rfl)
  have hen : entryFrame m args 2 = entryFrame m ([.ref (a 12), .int x1] : List Value).toArray 2 := by rw [hav]
  rw [hen, lg_entry_eq]
  generalize (lg_sl [.ref (a 12), .int x1] ++ List.replicate (2 - (lg_sl [.ref (a 12), .int x1]).length) Slot.unset).toArray = ls at hl ⊢
  have hl : lv_has ls 2 [(0, .ref (a 12)), (1, .int x1)] := hl
  have eR : (headSpec wsX4_returnOf rmX4_returnOf_i).room = rmX4_returnOf_i := rfl
  rw [eR]
  have rt : ∀ (v : Int32) (t : St) (pc : Nat) (H : Heap) (locs : List Loc) (ls : Array Slot), decode cX4_returnOf pc = .ok (.ireturn, 1) → some v = some r → zz (dC, dI) 30 a (wdC cI cZ a σ) s.heap H locs → W p l e rmX4_returnOf_i s m args below meth c H locs 0 0 (MQ below (Qzi (dC, dI) 30 a (wdC cI cZ a σ) sz r) args s 0 0 (aN 30 a sz)) (F0 m pc ls [.int v]) := by
    intro v t pc H locs ls hd h hz
    cases h
    exact ziret hsz hx hb hr hlocks hz hd
  generalize (MQ below (Qzi (dC, dI) 30 a (wdC cI cZ a σ) sz r) args s 0 0 (aN 30 a sz)) = Q at rt ⊢
  unfold fX4_returnOf_i at h
  refine lv_aload_n hx hb dX4_returnOf_0 rfl (lv_at hl 0 rfl) ?_
  refine lv_iload_n hx hb dX4_returnOf_1 rfl (lv_at hl 1 rfl) ?_
  obtain ⟨r1, e3, h⟩ := bd1_e h
  refine zcallVi (As := [.int x1]) (rest := []) CF hKK (KX4_has_i (dC := dC) (dI := dI) (cI := cI) (cZ := cZ) (a := a) hok e3) (cwV 1 hts gX4_returnOf_X4_has rfl rfl rfl cdX4_has ⟨Nat.le_of_ble_eq_true rfl, Nat.le_of_ble_eq_true rfl⟩) 12 4 rfl rfl hz rfl hl.1 rfl (Nat.le_of_ble_eq_true rfl) dX4_returnOf_2 ⟨Nat.le_refl _, Nat.le_refl _⟩ (fun H locs hz => ?_)
  refine lv_if_eq (tgt := 17) hx hb dX4_returnOf_5 (by decide) (fun c4 => ?_) (fun c4 => ?_)
  · replace h := ite_t c4 h
    refine lv_iconst (v := (-1 : Int32)) hx hb dX4_returnOf_17 (by decide) ?_
    exact rt (-1 : Int32) σ 18 _ _ _ dX4_returnOf_18 h hz
  · replace h := ite_f c4 h
    refine lv_aload_n hx hb dX4_returnOf_8 rfl (lv_at hl 0 rfl) ?_
    refine va_get (v := .ref (a 14)) hx hb hts inX4_returnOf_X4 hown hKK.1 hz.1 12 rfl rfl 1 (by decide) (hts _ (List.mem_of_getElem? (i := 1) rfl)) (fun _ h9 => h9) rfl dX4_returnOf_9 ?_
    refine lv_iload_n hx hb dX4_returnOf_12 rfl (lv_at hl 1 rfl) ?_
    obtain ⟨c5, h⟩ := ck_e h
    refine va_iald (f := (σ 14)) hx hb hKK.1 hz.1 14 0 rfl rfl c5 dX4_returnOf_13 ?_
    refine lv_goto (tgt := 18) hx hb dX4_returnOf_14 (by decide) ?_
    exact rt ((σ 14) (Int32.toNatClampNeg x1)) σ 18 _ _ _ dX4_returnOf_18 h hz
def fX4_returnOf_c (σ : St) (x1 : Int32) : Option (Int32) :=
  (bd1 (fX4_has_c σ x1) fun r1 => (if r1 = 0 then (some (-1 : Int32)) else ((ck (¬ (x1 < 0 ∨ 16 ≤ Int32.toNatClampNeg x1)) <| some ((σ 20) (Int32.toNatClampNeg x1))))))
abbrev rmX4_returnOf_c : Room := { frames := 1, cells := 0, slots := 0, locals := 21 }
set_option maxHeartbeats 4000000 in
set_option maxRecDepth 100000 in
theorem KX4_returnOf_c {l : Launch} {dC : Nat → ClassId} {dI : Nat → Nat → Nat} {cI cZ : ClassId} {a : Nat → Nat} {σ : St} {x1 : Int32} {r : Int32} (hok : okA 30 a) (h : fX4_returnOf_c σ x1 = some r) (sz : Nat) : Met l yX4_returnOf wsX4_returnOf rmX4_returnOf_c (Pz (dC, dI) cI cZ (wdC cI cZ a σ) sz [.ref (a 18), .int x1]) (Qzi (dC, dI) 30 a (wdC cI cZ a σ) sz r) 0 0 (aN 30 a sz) := by
  refine Met.ofW (cc := cX4_returnOf) (maxL := 2) (ret := (some .int)) (by decide) rfl ?_
  intro p e s m args below meth c s₁ B hml hv
  obtain ⟨hav, hsz, hP, hKK⟩ := hv
  have hx := B.exec
  have hb := B.bytes
  have hr := B.returns
  have hts := atoms_spec (ws := wsX4_returnOf) B.pre
  have hown : s.vm.findClass RX4 = some m.cls := findClass_of_methodNamed B.named
  have hlocks := B.notSynchronized
  have CF : CallFix p m c cX4_returnOf 2 s args wsX4_returnOf RX4 := ⟨hx, hb, hml, hown, hts⟩
  have hz : zz (dC, dI) 30 a (wdC cI cZ a σ) s.heap s.heap [] := ⟨hP, va_S.rf⟩
  have hl := lv_entry [.ref (a 18), .int x1] (n := 2) (Nat.le_of_ble_eq_true rfl)
  have hen : entryFrame m args 2 = entryFrame m ([.ref (a 18), .int x1] : List Value).toArray 2 := by rw [hav]
  rw [hen, lg_entry_eq]
  generalize (lg_sl [.ref (a 18), .int x1] ++ List.replicate (2 - (lg_sl [.ref (a 18), .int x1]).length) Slot.unset).toArray = ls at hl ⊢
  have hl : lv_has ls 2 [(0, .ref (a 18)), (1, .int x1)] := hl
  have eR : (headSpec wsX4_returnOf rmX4_returnOf_c).room = rmX4_returnOf_c := rfl
  rw [eR]
  have rt : ∀ (v : Int32) (t : St) (pc : Nat) (H : Heap) (locs : List Loc) (ls : Array Slot), decode cX4_returnOf pc = .ok (.ireturn, 1) → some v = some r → zz (dC, dI) 30 a (wdC cI cZ a σ) s.heap H locs → W p l e rmX4_returnOf_c s m args below meth c H locs 0 0 (MQ below (Qzi (dC, dI) 30 a (wdC cI cZ a σ) sz r) args s 0 0 (aN 30 a sz)) (F0 m pc ls [.int v]) := by
    intro v t pc H locs ls hd h hz
    cases h
    exact ziret hsz hx hb hr hlocks hz hd
  generalize (MQ below (Qzi (dC, dI) 30 a (wdC cI cZ a σ) sz r) args s 0 0 (aN 30 a sz)) = Q at rt ⊢
  unfold fX4_returnOf_c at h
  refine lv_aload_n hx hb dX4_returnOf_0 rfl (lv_at hl 0 rfl) ?_
  refine lv_iload_n hx hb dX4_returnOf_1 rfl (lv_at hl 1 rfl) ?_
  obtain ⟨r1, e3, h⟩ := bd1_e h
  refine zcallVi (As := [.int x1]) (rest := []) CF hKK (KX4_has_c (dC := dC) (dI := dI) (cI := cI) (cZ := cZ) (a := a) hok e3) (cwV 1 hts gX4_returnOf_X4_has rfl rfl rfl cdX4_has ⟨Nat.le_of_ble_eq_true rfl, Nat.le_of_ble_eq_true rfl⟩) 18 4 rfl rfl hz rfl hl.1 rfl (Nat.le_of_ble_eq_true rfl) dX4_returnOf_2 ⟨Nat.le_refl _, Nat.le_refl _⟩ (fun H locs hz => ?_)
  refine lv_if_eq (tgt := 17) hx hb dX4_returnOf_5 (by decide) (fun c4 => ?_) (fun c4 => ?_)
  · replace h := ite_t c4 h
    refine lv_iconst (v := (-1 : Int32)) hx hb dX4_returnOf_17 (by decide) ?_
    exact rt (-1 : Int32) σ 18 _ _ _ dX4_returnOf_18 h hz
  · replace h := ite_f c4 h
    refine lv_aload_n hx hb dX4_returnOf_8 rfl (lv_at hl 0 rfl) ?_
    refine va_get (v := .ref (a 20)) hx hb hts inX4_returnOf_X4 hown hKK.1 hz.1 18 rfl rfl 1 (by decide) (hts _ (List.mem_of_getElem? (i := 1) rfl)) (fun _ h9 => h9) rfl dX4_returnOf_9 ?_
    refine lv_iload_n hx hb dX4_returnOf_12 rfl (lv_at hl 1 rfl) ?_
    obtain ⟨c5, h⟩ := ck_e h
    refine va_iald (f := (σ 20)) hx hb hKK.1 hz.1 20 0 rfl rfl c5 dX4_returnOf_13 ?_
    refine lv_goto (tgt := 18) hx hb dX4_returnOf_14 (by decide) ?_
    exact rt ((σ 20) (Int32.toNatClampNeg x1)) σ 18 _ _ _ dX4_returnOf_18 h hz
def fX5_letter (σ : St) (x1 : Int32) : Option (Int32 × St) :=
  (if x1 < (32 : Int32) then (some ((-1002 : Int32), σ)) else ((if x1 ≤ (126 : Int32) then ((bd2 (fX1_append σ x1) fun r3 s4 => (if r3 = 0 then (some ((-1004 : Int32), s4)) else ((bd1 (fX1_length s4 ) fun r7 => some (r7, s4)))))) else (some ((-1002 : Int32), σ)))))
abbrev rmX5_letter : Room := { frames := 1, cells := 0, slots := 0, locals := 21 }
set_option maxHeartbeats 4000000 in
set_option maxRecDepth 100000 in
theorem KX5_letter {l : Launch} {dC : Nat → ClassId} {dI : Nat → Nat → Nat} {cI cZ : ClassId} {a : Nat → Nat} {σ : St} {x1 : Int32} {r : Int32} {σ2 : St} (hok : okA 30 a) (h : fX5_letter σ x1 = some (r, σ2)) (sz : Nat) : Met l yX5_letter wsX5_letter rmX5_letter (Pz (dC, dI) cI cZ (wdC cI cZ a σ) sz [.ref (a 0), .int x1]) (Qzi (dC, dI) 30 a (wdC cI cZ a σ2) sz r) 0 0 (aN 30 a sz) := by
  refine Met.ofW (cc := cX5_letter) (maxL := 2) (ret := (some .int)) (by decide) rfl ?_
  intro p e s m args below meth c s₁ B hml hv
  obtain ⟨hav, hsz, hP, hKK⟩ := hv
  have hx := B.exec
  have hb := B.bytes
  have hr := B.returns
  have hts := atoms_spec (ws := wsX5_letter) B.pre
  have hown : s.vm.findClass RX5 = some m.cls := findClass_of_methodNamed B.named
  have hlocks := B.notSynchronized
  have CF : CallFix p m c cX5_letter 2 s args wsX5_letter RX5 := ⟨hx, hb, hml, hown, hts⟩
  have hz : zz (dC, dI) 30 a (wdC cI cZ a σ) s.heap s.heap [] := ⟨hP, va_S.rf⟩
  have hl := lv_entry [.ref (a 0), .int x1] (n := 2) (Nat.le_of_ble_eq_true rfl)
  have hen : entryFrame m args 2 = entryFrame m ([.ref (a 0), .int x1] : List Value).toArray 2 := by rw [hav]
  rw [hen, lg_entry_eq]
  generalize (lg_sl [.ref (a 0), .int x1] ++ List.replicate (2 - (lg_sl [.ref (a 0), .int x1]).length) Slot.unset).toArray = ls at hl ⊢
  have hl : lv_has ls 2 [(0, .ref (a 0)), (1, .int x1)] := hl
  have eR : (headSpec wsX5_letter rmX5_letter).room = rmX5_letter := rfl
  rw [eR]
  have rt : ∀ (v : Int32) (t : St) (pc : Nat) (H : Heap) (locs : List Loc) (ls : Array Slot), decode cX5_letter pc = .ok (.ireturn, 1) → some (v, t) = some (r, σ2) → zz (dC, dI) 30 a (wdC cI cZ a t) s.heap H locs → W p l e rmX5_letter s m args below meth c H locs 0 0 (MQ below (Qzi (dC, dI) 30 a (wdC cI cZ a σ2) sz r) args s 0 0 (aN 30 a sz)) (F0 m pc ls [.int v]) := by
    intro v t pc H locs ls hd h hz
    cases h
    exact ziret hsz hx hb hr hlocks hz hd
  generalize (MQ below (Qzi (dC, dI) 30 a (wdC cI cZ a σ2) sz r) args s 0 0 (aN 30 a sz)) = Q at rt ⊢
  unfold fX5_letter at h
  refine lv_iload_n hx hb dX5_letter_0 rfl (lv_at hl 1 rfl) ?_
  refine lv_bipush (v := (32 : Int32)) hx hb dX5_letter_1 (by decide) ?_
  refine lv_icmp_lt (tgt := 12) hx hb dX5_letter_3 (by decide) (fun c1 => ?_) (fun c1 => ?_)
  · replace h := ite_t c1 h
    refine lv_sipush (v := (-1002 : Int32)) hx hb dX5_letter_12 (by decide) ?_
    exact rt (-1002 : Int32) σ 15 _ _ _ dX5_letter_15 h hz
  · replace h := ite_f c1 h
    refine lv_iload_n hx hb dX5_letter_6 rfl (lv_at hl 1 rfl) ?_
    refine lv_bipush (v := (126 : Int32)) hx hb dX5_letter_7 (by decide) ?_
    refine lv_icmp_le (tgt := 16) hx hb dX5_letter_9 (by decide) (fun c2 => ?_) (fun c2 => ?_)
    · replace h := ite_t c2 h
      refine lv_aload_n hx hb dX5_letter_16 rfl (lv_at hl 0 rfl) ?_
      refine va_get (v := .ref (a 1)) hx hb hts inX5_letter_X5 hown hKK.1 hz.1 0 rfl rfl 0 (by decide) (hts _ (List.mem_of_getElem? (i := 1) rfl)) (fun _ h9 => h9) rfl dX5_letter_17 ?_
      refine lv_iload_n hx hb dX5_letter_20 rfl (lv_at hl 1 rfl) ?_
      obtain ⟨r3, s4, e5, h⟩ := bd2_e h
      refine zcallVi (As := [.int x1]) (rest := []) CF hKK (KX1_append (dC := dC) (dI := dI) (cI := cI) (cZ := cZ) (a := a) hok e5) (cwV 1 hts gX5_letter_X1_append rfl rfl rfl cdX1_append ⟨Nat.le_of_ble_eq_true rfl, Nat.le_of_ble_eq_true rfl⟩) 1 1 rfl rfl hz rfl hl.1 rfl (Nat.le_of_ble_eq_true rfl) dX5_letter_21 ⟨Nat.le_refl _, Nat.le_refl _⟩ (fun H locs hz => ?_)
      refine lv_if_eq (tgt := 37) hx hb dX5_letter_24 (by decide) (fun c6 => ?_) (fun c6 => ?_)
      · replace h := ite_t c6 h
        refine lv_sipush (v := (-1004 : Int32)) hx hb dX5_letter_37 (by decide) ?_
        exact rt (-1004 : Int32) s4 40 _ _ _ dX5_letter_40 h hz
      · replace h := ite_f c6 h
        refine lv_aload_n hx hb dX5_letter_27 rfl (lv_at hl 0 rfl) ?_
        refine va_get (v := .ref (a 1)) hx hb hts inX5_letter_X5 hown hKK.1 hz.1 0 rfl rfl 0 (by decide) (hts _ (List.mem_of_getElem? (i := 1) rfl)) (fun _ h9 => h9) rfl dX5_letter_28 ?_
        obtain ⟨r7, e9, h⟩ := bd1_e h
        refine zcallVi (As := []) (rest := []) CF hKK (KX1_length (dC := dC) (dI := dI) (cI := cI) (cZ := cZ) (a := a) hok e9) (cwV 0 hts gX5_letter_X1_length rfl rfl rfl cdX1_length ⟨Nat.le_of_ble_eq_true rfl, Nat.le_of_ble_eq_true rfl⟩) 1 1 rfl rfl hz rfl hl.1 rfl (Nat.le_of_ble_eq_true rfl) dX5_letter_31 ⟨Nat.le_refl _, Nat.le_refl _⟩ (fun H locs hz => ?_)
        refine lv_goto (tgt := 40) hx hb dX5_letter_34 (by decide) ?_
        exact rt r7 s4 40 _ _ _ dX5_letter_40 h hz
    · replace h := ite_f c2 h
      refine lv_sipush (v := (-1002 : Int32)) hx hb dX5_letter_12 (by decide) ?_
      exact rt (-1002 : Int32) σ 15 _ _ _ dX5_letter_15 h hz
def fX5_blank (σ : St)  : Option (Int32 × St) :=
  (bd1 (fX1_length σ ) fun r1 => (bd1 (fX1_clear σ ) fun s5 => some (r1, s5)))
abbrev rmX5_blank : Room := { frames := 1, cells := 0, slots := 0, locals := 20 }
set_option maxHeartbeats 4000000 in
set_option maxRecDepth 100000 in
theorem KX5_blank {l : Launch} {dC : Nat → ClassId} {dI : Nat → Nat → Nat} {cI cZ : ClassId} {a : Nat → Nat} {σ : St}  {r : Int32} {σ2 : St} (hok : okA 30 a) (h : fX5_blank σ  = some (r, σ2)) (sz : Nat) : Met l yX5_blank wsX5_blank rmX5_blank (Pz (dC, dI) cI cZ (wdC cI cZ a σ) sz [.ref (a 0)]) (Qzi (dC, dI) 30 a (wdC cI cZ a σ2) sz r) 0 0 (aN 30 a sz) := by
  refine Met.ofW (cc := cX5_blank) (maxL := 2) (ret := (some .int)) (by decide) rfl ?_
  intro p e s m args below meth c s₁ B hml hv
  obtain ⟨hav, hsz, hP, hKK⟩ := hv
  have hx := B.exec
  have hb := B.bytes
  have hr := B.returns
  have hts := atoms_spec (ws := wsX5_blank) B.pre
  have hown : s.vm.findClass RX5 = some m.cls := findClass_of_methodNamed B.named
  have hlocks := B.notSynchronized
  have CF : CallFix p m c cX5_blank 2 s args wsX5_blank RX5 := ⟨hx, hb, hml, hown, hts⟩
  have hz : zz (dC, dI) 30 a (wdC cI cZ a σ) s.heap s.heap [] := ⟨hP, va_S.rf⟩
  have hl := lv_entry [.ref (a 0)] (n := 2) (Nat.le_of_ble_eq_true rfl)
  have hen : entryFrame m args 2 = entryFrame m ([.ref (a 0)] : List Value).toArray 2 := by rw [hav]
  rw [hen, lg_entry_eq]
  generalize (lg_sl [.ref (a 0)] ++ List.replicate (2 - (lg_sl [.ref (a 0)]).length) Slot.unset).toArray = ls at hl ⊢
  have hl : lv_has ls 2 [(0, .ref (a 0))] := hl
  have eR : (headSpec wsX5_blank rmX5_blank).room = rmX5_blank := rfl
  rw [eR]
  have rt : ∀ (v : Int32) (t : St) (pc : Nat) (H : Heap) (locs : List Loc) (ls : Array Slot), decode cX5_blank pc = .ok (.ireturn, 1) → some (v, t) = some (r, σ2) → zz (dC, dI) 30 a (wdC cI cZ a t) s.heap H locs → W p l e rmX5_blank s m args below meth c H locs 0 0 (MQ below (Qzi (dC, dI) 30 a (wdC cI cZ a σ2) sz r) args s 0 0 (aN 30 a sz)) (F0 m pc ls [.int v]) := by
    intro v t pc H locs ls hd h hz
    cases h
    exact ziret hsz hx hb hr hlocks hz hd
  generalize (MQ below (Qzi (dC, dI) 30 a (wdC cI cZ a σ2) sz r) args s 0 0 (aN 30 a sz)) = Q at rt ⊢
  unfold fX5_blank at h
  refine lv_aload_n hx hb dX5_blank_0 rfl (lv_at hl 0 rfl) ?_
  refine va_get (v := .ref (a 1)) hx hb hts inX5_blank_X5 hown hKK.1 hz.1 0 rfl rfl 0 (by decide) (hts _ (List.mem_of_getElem? (i := 1) rfl)) (fun _ h9 => h9) rfl dX5_blank_1 ?_
  obtain ⟨r1, e3, h⟩ := bd1_e h
  refine zcallVi (As := []) (rest := []) CF hKK (KX1_length (dC := dC) (dI := dI) (cI := cI) (cZ := cZ) (a := a) hok e3) (cwV 0 hts gX5_blank_X1_length rfl rfl rfl cdX1_length ⟨Nat.le_of_ble_eq_true rfl, Nat.le_of_ble_eq_true rfl⟩) 1 1 rfl rfl hz rfl hl.1 rfl (Nat.le_of_ble_eq_true rfl) dX5_blank_4 ⟨Nat.le_refl _, Nat.le_refl _⟩ (fun H locs hz => ?_)
  refine lv_istore_n (lv' := [(1, .int r1), (0, .ref (a 0))]) hx hb dX5_blank_7 rfl hl (by decide) rfl (fun ls hl => ?_)
  refine lv_aload_n hx hb dX5_blank_8 rfl (lv_at hl 1 rfl) ?_
  refine va_get (v := .ref (a 1)) hx hb hts inX5_blank_X5 hown hKK.1 hz.1 0 rfl rfl 0 (by decide) (hts _ (List.mem_of_getElem? (i := 1) rfl)) (fun _ h9 => h9) rfl dX5_blank_9 ?_
  obtain ⟨s5, e6, h⟩ := bd1_e h
  refine zcallVv (As := []) (rest := []) CF hKK (KX1_clear (dC := dC) (dI := dI) (cI := cI) (cZ := cZ) (a := a) hok e6) (cwV 0 hts gX5_blank_X1_clear rfl rfl rfl cdX1_clear ⟨Nat.le_of_ble_eq_true rfl, Nat.le_of_ble_eq_true rfl⟩) 1 1 rfl rfl hz rfl hl.1 rfl (Nat.le_of_ble_eq_true rfl) dX5_blank_12 ⟨Nat.le_refl _, Nat.le_refl _⟩ (fun H locs hz => ?_)
  refine lv_iload_n hx hb dX5_blank_15 rfl (lv_at hl 0 rfl) ?_
  exact rt r1 s5 16 _ _ _ dX5_blank_16 h hz
def fX5_fault (σ : St)  : Option (Int32 × St) :=
  (bd2 (fX3_read σ ) fun r1 s2 => some (r1, s2))
abbrev rmX5_fault : Room := { frames := 4, cells := 0, slots := 0, locals := 91 }
set_option maxHeartbeats 4000000 in
set_option maxRecDepth 100000 in
theorem KX5_fault {l : Launch} {dC : Nat → ClassId} {dI : Nat → Nat → Nat} {cI cZ : ClassId} {a : Nat → Nat} {σ : St}  {r : Int32} {σ2 : St} (hok : okA 30 a) (h : fX5_fault σ  = some (r, σ2)) (sz : Nat) : Met l yX5_fault wsX5_fault rmX5_fault (Pz (dC, dI) cI cZ (wdC cI cZ a σ) sz [.ref (a 0)]) (Qzi (dC, dI) 30 a (wdC cI cZ a σ2) sz r) 0 0 (aN 30 a sz) := by
  refine Met.ofW (cc := cX5_fault) (maxL := 1) (ret := (some .int)) (by decide) rfl ?_
  intro p e s m args below meth c s₁ B hml hv
  obtain ⟨hav, hsz, hP, hKK⟩ := hv
  have hx := B.exec
  have hb := B.bytes
  have hr := B.returns
  have hts := atoms_spec (ws := wsX5_fault) B.pre
  have hown : s.vm.findClass RX5 = some m.cls := findClass_of_methodNamed B.named
  have hlocks := B.notSynchronized
  have CF : CallFix p m c cX5_fault 1 s args wsX5_fault RX5 := ⟨hx, hb, hml, hown, hts⟩
  have hz : zz (dC, dI) 30 a (wdC cI cZ a σ) s.heap s.heap [] := ⟨hP, va_S.rf⟩
  have hl := lv_entry [.ref (a 0)] (n := 1) (Nat.le_of_ble_eq_true rfl)
  have hen : entryFrame m args 1 = entryFrame m ([.ref (a 0)] : List Value).toArray 1 := by rw [hav]
  rw [hen, lg_entry_eq]
  generalize (lg_sl [.ref (a 0)] ++ List.replicate (1 - (lg_sl [.ref (a 0)]).length) Slot.unset).toArray = ls at hl ⊢
  have hl : lv_has ls 1 [(0, .ref (a 0))] := hl
  have eR : (headSpec wsX5_fault rmX5_fault).room = rmX5_fault := rfl
  rw [eR]
  have rt : ∀ (v : Int32) (t : St) (pc : Nat) (H : Heap) (locs : List Loc) (ls : Array Slot), decode cX5_fault pc = .ok (.ireturn, 1) → some (v, t) = some (r, σ2) → zz (dC, dI) 30 a (wdC cI cZ a t) s.heap H locs → W p l e rmX5_fault s m args below meth c H locs 0 0 (MQ below (Qzi (dC, dI) 30 a (wdC cI cZ a σ2) sz r) args s 0 0 (aN 30 a sz)) (F0 m pc ls [.int v]) := by
    intro v t pc H locs ls hd h hz
    cases h
    exact ziret hsz hx hb hr hlocks hz hd
  generalize (MQ below (Qzi (dC, dI) 30 a (wdC cI cZ a σ2) sz r) args s 0 0 (aN 30 a sz)) = Q at rt ⊢
  unfold fX5_fault at h
  refine lv_aload_n hx hb dX5_fault_0 rfl (lv_at hl 0 rfl) ?_
  refine va_get (v := .ref (a 3)) hx hb hts inX5_fault_X5 hown hKK.1 hz.1 0 rfl rfl 1 (by decide) (hts _ (List.mem_of_getElem? (i := 1) rfl)) (fun _ h9 => h9) rfl dX5_fault_1 ?_
  refine lv_aload_n hx hb dX5_fault_4 rfl (lv_at hl 0 rfl) ?_
  refine va_get (v := .ref (a 1)) hx hb hts inX5_fault_X5 hown hKK.1 hz.1 0 rfl rfl 0 (by decide) (hts _ (List.mem_of_getElem? (i := 2) rfl)) (fun _ h9 => h9) rfl dX5_fault_5 ?_
  obtain ⟨r1, s2, e3, h⟩ := bd2_e h
  refine zcallVi (As := [.ref (a 1)]) (rest := []) CF hKK (KX3_read (dC := dC) (dI := dI) (cI := cI) (cZ := cZ) (a := a) hok e3) (cwV 1 hts gX5_fault_X3_read rfl rfl rfl cdX3_read ⟨Nat.le_of_ble_eq_true rfl, Nat.le_of_ble_eq_true rfl⟩) 3 3 rfl rfl hz rfl hl.1 rfl (Nat.le_of_ble_eq_true rfl) dX5_fault_8 ⟨Nat.le_refl _, Nat.le_refl _⟩ (fun H locs hz => ?_)
  exact rt r1 s2 11 _ _ _ dX5_fault_11 h hz
def fX5_code (σ : St)  : Option (Int32 × St) :=
  (bd2 (fX3_read σ ) fun r1 s2 => (bd1 (fX1_length s2 ) fun r4 => (if r1 < r4 then (some ((-1003 : Int32), s2)) else ((bd1 (fX3_isWhole s2 ) fun r8 => (if r8 = 0 then (some ((-1003 : Int32), s2)) else ((bd1 (fX0_takeFrom_p s2 ) fun s13 => (bd1 (fX1_clear s13 ) fun s16 => (bd1 (fX2_placeAll (si s16 40 ((s16 40 0) + (1 : Int32))) ) fun s19 => (bd1 (fX0_size_p s19 ) fun r21 => some (r21, s19))))))))))))
abbrev rmX5_code : Room := { frames := 6, cells := 0, slots := 0, locals := 138 }
set_option maxHeartbeats 4000000 in
set_option maxRecDepth 100000 in
theorem KX5_code {l : Launch} {dC : Nat → ClassId} {dI : Nat → Nat → Nat} {cI cZ : ClassId} {a : Nat → Nat} {σ : St}  {r : Int32} {σ2 : St} (hok : okA 30 a) (h : fX5_code σ  = some (r, σ2)) (sz : Nat) : Met l yX5_code wsX5_code rmX5_code (Pz (dC, dI) cI cZ (wdC cI cZ a σ) sz [.ref (a 0)]) (Qzi (dC, dI) 30 a (wdC cI cZ a σ2) sz r) 0 0 (aN 30 a sz) := by
  refine Met.ofW (cc := cX5_code) (maxL := 1) (ret := (some .int)) (by decide) rfl ?_
  intro p e s m args below meth c s₁ B hml hv
  obtain ⟨hav, hsz, hP, hKK⟩ := hv
  have hx := B.exec
  have hb := B.bytes
  have hr := B.returns
  have hts := atoms_spec (ws := wsX5_code) B.pre
  have hown : s.vm.findClass RX5 = some m.cls := findClass_of_methodNamed B.named
  have hlocks := B.notSynchronized
  have CF : CallFix p m c cX5_code 1 s args wsX5_code RX5 := ⟨hx, hb, hml, hown, hts⟩
  have hz : zz (dC, dI) 30 a (wdC cI cZ a σ) s.heap s.heap [] := ⟨hP, va_S.rf⟩
  have hl := lv_entry [.ref (a 0)] (n := 1) (Nat.le_of_ble_eq_true rfl)
  have hen : entryFrame m args 1 = entryFrame m ([.ref (a 0)] : List Value).toArray 1 := by rw [hav]
  rw [hen, lg_entry_eq]
  generalize (lg_sl [.ref (a 0)] ++ List.replicate (1 - (lg_sl [.ref (a 0)]).length) Slot.unset).toArray = ls at hl ⊢
  have hl : lv_has ls 1 [(0, .ref (a 0))] := hl
  have eR : (headSpec wsX5_code rmX5_code).room = rmX5_code := rfl
  rw [eR]
  have rt : ∀ (v : Int32) (t : St) (pc : Nat) (H : Heap) (locs : List Loc) (ls : Array Slot), decode cX5_code pc = .ok (.ireturn, 1) → some (v, t) = some (r, σ2) → zz (dC, dI) 30 a (wdC cI cZ a t) s.heap H locs → W p l e rmX5_code s m args below meth c H locs 0 0 (MQ below (Qzi (dC, dI) 30 a (wdC cI cZ a σ2) sz r) args s 0 0 (aN 30 a sz)) (F0 m pc ls [.int v]) := by
    intro v t pc H locs ls hd h hz
    cases h
    exact ziret hsz hx hb hr hlocks hz hd
  generalize (MQ below (Qzi (dC, dI) 30 a (wdC cI cZ a σ2) sz r) args s 0 0 (aN 30 a sz)) = Q at rt ⊢
  unfold fX5_code at h
  refine lv_aload_n hx hb dX5_code_0 rfl (lv_at hl 0 rfl) ?_
  refine va_get (v := .ref (a 3)) hx hb hts inX5_code_X5 hown hKK.1 hz.1 0 rfl rfl 1 (by decide) (hts _ (List.mem_of_getElem? (i := 1) rfl)) (fun _ h9 => h9) rfl dX5_code_1 ?_
  refine lv_aload_n hx hb dX5_code_4 rfl (lv_at hl 0 rfl) ?_
  refine va_get (v := .ref (a 1)) hx hb hts inX5_code_X5 hown hKK.1 hz.1 0 rfl rfl 0 (by decide) (hts _ (List.mem_of_getElem? (i := 2) rfl)) (fun _ h9 => h9) rfl dX5_code_5 ?_
  obtain ⟨r1, s2, e3, h⟩ := bd2_e h
  refine zcallVi (As := [.ref (a 1)]) (rest := []) CF hKK (KX3_read (dC := dC) (dI := dI) (cI := cI) (cZ := cZ) (a := a) hok e3) (cwV 1 hts gX5_code_X3_read rfl rfl rfl cdX3_read ⟨Nat.le_of_ble_eq_true rfl, Nat.le_of_ble_eq_true rfl⟩) 3 3 rfl rfl hz rfl hl.1 rfl (Nat.le_of_ble_eq_true rfl) dX5_code_8 ⟨Nat.le_refl _, Nat.le_refl _⟩ (fun H locs hz => ?_)
  refine lv_aload_n hx hb dX5_code_11 rfl (lv_at hl 0 rfl) ?_
  refine va_get (v := .ref (a 1)) hx hb hts inX5_code_X5 hown hKK.1 hz.1 0 rfl rfl 0 (by decide) (hts _ (List.mem_of_getElem? (i := 2) rfl)) (fun _ h9 => h9) rfl dX5_code_12 ?_
  obtain ⟨r4, e6, h⟩ := bd1_e h
  refine zcallVi (As := []) (rest := [.int r1]) CF hKK (KX1_length (dC := dC) (dI := dI) (cI := cI) (cZ := cZ) (a := a) hok e6) (cwV 0 hts gX5_code_X1_length rfl rfl rfl cdX1_length ⟨Nat.le_of_ble_eq_true rfl, Nat.le_of_ble_eq_true rfl⟩) 1 1 rfl rfl hz rfl hl.1 rfl (Nat.le_of_ble_eq_true rfl) dX5_code_15 ⟨Nat.le_refl _, Nat.le_refl _⟩ (fun H locs hz => ?_)
  refine lv_icmp_lt (tgt := 31) hx hb dX5_code_18 (by decide) (fun c7 => ?_) (fun c7 => ?_)
  · replace h := ite_t c7 h
    refine lv_sipush (v := (-1003 : Int32)) hx hb dX5_code_31 (by decide) ?_
    exact rt (-1003 : Int32) s2 34 _ _ _ dX5_code_34 h hz
  · replace h := ite_f c7 h
    refine lv_aload_n hx hb dX5_code_21 rfl (lv_at hl 0 rfl) ?_
    refine va_get (v := .ref (a 3)) hx hb hts inX5_code_X5 hown hKK.1 hz.1 0 rfl rfl 1 (by decide) (hts _ (List.mem_of_getElem? (i := 1) rfl)) (fun _ h9 => h9) rfl dX5_code_22 ?_
    obtain ⟨r8, e10, h⟩ := bd1_e h
    refine zcallVi (As := []) (rest := []) CF hKK (KX3_isWhole (dC := dC) (dI := dI) (cI := cI) (cZ := cZ) (a := a) hok e10) (cwV 0 hts gX5_code_X3_isWhole rfl rfl rfl cdX3_isWhole ⟨Nat.le_of_ble_eq_true rfl, Nat.le_of_ble_eq_true rfl⟩) 3 3 rfl rfl hz rfl hl.1 rfl (Nat.le_of_ble_eq_true rfl) dX5_code_25 ⟨Nat.le_refl _, Nat.le_refl _⟩ (fun H locs hz => ?_)
    refine lv_if_ne (tgt := 35) hx hb dX5_code_28 (by decide) (fun c11 => ?_) (fun c11 => ?_)
    · replace h := ite_f c11 h
      refine lv_aload_n hx hb dX5_code_35 rfl (lv_at hl 0 rfl) ?_
      refine va_get (v := .ref (a 7)) hx hb hts inX5_code_X5 hown hKK.1 hz.1 0 rfl rfl 2 (by decide) (hts _ (List.mem_of_getElem? (i := 3) rfl)) (fun _ h9 => h9) rfl dX5_code_36 ?_
      refine lv_aload_n hx hb dX5_code_39 rfl (lv_at hl 0 rfl) ?_
      refine va_get (v := .ref (a 3)) hx hb hts inX5_code_X5 hown hKK.1 hz.1 0 rfl rfl 1 (by decide) (hts _ (List.mem_of_getElem? (i := 1) rfl)) (fun _ h9 => h9) rfl dX5_code_40 ?_
      refine va_getN (v := .ref (a 4)) hx hb hts inX5_code_X3 hown hKK.1 hz.1 3 rfl rfl 0 (by decide) (va_Nw.use rfl hKK.2.2.2.2.1) (fun _ h9 => h9) rfl dX5_code_43 ?_
      obtain ⟨s13, e14, h⟩ := bd1_e h
      refine zcallVv (As := [.ref (a 4)]) (rest := []) CF hKK (KX0_takeFrom_p (dC := dC) (dI := dI) (cI := cI) (cZ := cZ) (a := a) hok e14) (cwV 1 hts gX5_code_X0_takeFrom rfl rfl rfl cdX0_takeFrom ⟨Nat.le_of_ble_eq_true rfl, Nat.le_of_ble_eq_true rfl⟩) 7 0 rfl rfl hz rfl hl.1 rfl (Nat.le_of_ble_eq_true rfl) dX5_code_46 ⟨Nat.le_refl _, Nat.le_refl _⟩ (fun H locs hz => ?_)
      refine lv_aload_n hx hb dX5_code_49 rfl (lv_at hl 0 rfl) ?_
      refine va_get (v := .ref (a 1)) hx hb hts inX5_code_X5 hown hKK.1 hz.1 0 rfl rfl 0 (by decide) (hts _ (List.mem_of_getElem? (i := 2) rfl)) (fun _ h9 => h9) rfl dX5_code_50 ?_
      obtain ⟨s16, e17, h⟩ := bd1_e h
      refine zcallVv (As := []) (rest := []) CF hKK (KX1_clear (dC := dC) (dI := dI) (cI := cI) (cZ := cZ) (a := a) hok e17) (cwV 0 hts gX5_code_X1_clear rfl rfl rfl cdX1_clear ⟨Nat.le_of_ble_eq_true rfl, Nat.le_of_ble_eq_true rfl⟩) 1 1 rfl rfl hz rfl hl.1 rfl (Nat.le_of_ble_eq_true rfl) dX5_code_53 ⟨Nat.le_refl _, Nat.le_refl _⟩ (fun H locs hz => ?_)
      refine lv_aload_n hx hb dX5_code_56 rfl (lv_at hl 0 rfl) ?_
      refine lv_dup hx hb dX5_code_57 rfl ?_
      refine va_get (v := .int (s16 40 0)) hx hb hts inX5_code_X5 hown hKK.1 hz.1 0 rfl rfl 5 (by decide) (hts _ (List.mem_of_getElem? (i := 4) rfl)) (fun _ h9 => h9) rfl dX5_code_58 ?_
      refine lv_iconst (v := (1 : Int32)) hx hb dX5_code_61 (by decide) ?_
      refine lv_iadd hx hb dX5_code_62 ?_
      refine zput (ty := .int) (w' := wdC cI cZ a (si s16 40 ((s16 40 0) + (1 : Int32)))) hx hb hts inX5_code_X5 tyX5 tyX5_ok nmX5 hown hKK hok wkC hz 0 rfl rfl 5 (by decide) (hts _ (List.mem_of_getElem? (i := 4) rfl)) (fun _ h9 => h9) rfl rfl rfl rfl (Nat.le_of_ble_eq_true rfl) setCi_40 dX5_code_63 (fun H locs hz => ?_)
      refine lv_aload_n hx hb dX5_code_66 rfl (lv_at hl 0 rfl) ?_
      refine va_get (v := .ref (a 11)) hx hb hts inX5_code_X5 hown hKK.1 hz.1 0 rfl rfl 4 (by decide) (hts _ (List.mem_of_getElem? (i := 5) rfl)) (fun _ h9 => h9) rfl dX5_code_67 ?_
      obtain ⟨s19, e20, h⟩ := bd1_e h
      refine zcallVv (As := []) (rest := []) CF hKK (KX2_placeAll (dC := dC) (dI := dI) (cI := cI) (cZ := cZ) (a := a) hok e20) (cwV 0 hts gX5_code_X2_placeAll rfl rfl rfl cdX2_placeAll ⟨Nat.le_of_ble_eq_true rfl, Nat.le_of_ble_eq_true rfl⟩) 11 2 rfl rfl hz rfl hl.1 rfl (Nat.le_of_ble_eq_true rfl) dX5_code_70 ⟨Nat.le_refl _, Nat.le_refl _⟩ (fun H locs hz => ?_)
      refine lv_aload_n hx hb dX5_code_73 rfl (lv_at hl 0 rfl) ?_
      refine va_get (v := .ref (a 7)) hx hb hts inX5_code_X5 hown hKK.1 hz.1 0 rfl rfl 2 (by decide) (hts _ (List.mem_of_getElem? (i := 3) rfl)) (fun _ h9 => h9) rfl dX5_code_74 ?_
      obtain ⟨r21, e23, h⟩ := bd1_e h
      refine zcallVi (As := []) (rest := []) CF hKK (KX0_size_p (dC := dC) (dI := dI) (cI := cI) (cZ := cZ) (a := a) hok e23) (cwV 0 hts gX5_code_X0_size rfl rfl rfl cdX0_size ⟨Nat.le_of_ble_eq_true rfl, Nat.le_of_ble_eq_true rfl⟩) 7 0 rfl rfl hz rfl hl.1 rfl (Nat.le_of_ble_eq_true rfl) dX5_code_77 ⟨Nat.le_refl _, Nat.le_refl _⟩ (fun H locs hz => ?_)
      exact rt r21 s19 80 _ _ _ dX5_code_80 h hz
    · replace h := ite_t c11 h
      refine lv_sipush (v := (-1003 : Int32)) hx hb dX5_code_31 (by decide) ?_
      exact rt (-1003 : Int32) s2 34 _ _ _ dX5_code_34 h hz
def fX5_reach (σ : St) (x1 : Int32) (x2 : Int32) : Option (Int32 × St) :=
  (if x1 < 0 then (some ((-1002 : Int32), σ)) else ((if x1 ≤ (2 : Int32) then ((ck (¬ (x1 < 0 ∨ 3 ≤ Int32.toNatClampNeg x1)) <| (if x2 < (lr (Int32.toNatClampNeg x1)) then (some ((-1002 : Int32), σ)) else ((ck (¬ (x1 < 0 ∨ 3 ≤ Int32.toNatClampNeg x1)) <| (if x2 ≤ (mr (Int32.toNatClampNeg x1)) then ((ck (¬ (x1 < 0 ∨ 3 ≤ Int32.toNatClampNeg x1)) <| (ck (¬ (x1 < 0 ∨ 3 ≤ Int32.toNatClampNeg x1)) <| (bd1 (fX2_placeAll (si (sa σ 10 (Int32.toNatClampNeg x1) x2) 41 ((σ 41 0) + (1 : Int32))) ) fun s10 => some (((σ 10) (Int32.toNatClampNeg x1)), s10))))) else (some ((-1002 : Int32), σ)))))))) else (some ((-1002 : Int32), σ)))))
abbrev rmX5_reach : Room := { frames := 6, cells := 0, slots := 0, locals := 138 }
set_option maxHeartbeats 4000000 in
set_option maxRecDepth 100000 in
theorem KX5_reach {l : Launch} {dC : Nat → ClassId} {dI : Nat → Nat → Nat} {cI cZ : ClassId} {a : Nat → Nat} {q1 q2 : Nat} {σ : St} {x1 : Int32} {x2 : Int32} {r : Int32} {σ2 : St} (hok : okA 30 a) (h : fX5_reach σ x1 x2 = some (r, σ2)) (sz : Nat) : Met l yX5_reach wsX5_reach rmX5_reach (PzR q1 q2 a (dC, dI) cI cZ (wdC cI cZ a σ) sz [.ref (a 0), .int x1, .int x2]) (Qzi (dC, dI) 30 a (wdC cI cZ a σ2) sz r) 0 0 (aN 30 a sz) := by
  refine Met.ofW (cc := cX5_reach) (maxL := 4) (ret := (some .int)) (by decide) rfl ?_
  intro p e s m args below meth c s₁ B hml hv
  obtain ⟨hav, hsz, hP, hKK, hTb⟩ := hv
  have hx := B.exec
  have hb := B.bytes
  have hr := B.returns
  have hts := atoms_spec (ws := wsX5_reach) B.pre
  have hown : s.vm.findClass RX5 = some m.cls := findClass_of_methodNamed B.named
  have hlocks := B.notSynchronized
  have CF : CallFix p m c cX5_reach 4 s args wsX5_reach RX5 := ⟨hx, hb, hml, hown, hts⟩
  have hz : zz (dC, dI) 30 a (wdC cI cZ a σ) s.heap s.heap [] := ⟨hP, va_S.rf⟩
  have hl := lv_entry [.ref (a 0), .int x1, .int x2] (n := 4) (Nat.le_of_ble_eq_true rfl)
  have hen : entryFrame m args 4 = entryFrame m ([.ref (a 0), .int x1, .int x2] : List Value).toArray 4 := by rw [hav]
  rw [hen, lg_entry_eq]
  generalize (lg_sl [.ref (a 0), .int x1, .int x2] ++ List.replicate (4 - (lg_sl [.ref (a 0), .int x1, .int x2]).length) Slot.unset).toArray = ls at hl ⊢
  have hl : lv_has ls 4 [(0, .ref (a 0)), (1, .int x1), (2, .int x2)] := hl
  have eR : (headSpec wsX5_reach rmX5_reach).room = rmX5_reach := rfl
  rw [eR]
  have rt : ∀ (v : Int32) (t : St) (pc : Nat) (H : Heap) (locs : List Loc) (ls : Array Slot), decode cX5_reach pc = .ok (.ireturn, 1) → some (v, t) = some (r, σ2) → zz (dC, dI) 30 a (wdC cI cZ a t) s.heap H locs → W p l e rmX5_reach s m args below meth c H locs 0 0 (MQ below (Qzi (dC, dI) 30 a (wdC cI cZ a σ2) sz r) args s 0 0 (aN 30 a sz)) (F0 m pc ls [.int v]) := by
    intro v t pc H locs ls hd h hz
    cases h
    exact ziret hsz hx hb hr hlocks hz hd
  generalize (MQ below (Qzi (dC, dI) 30 a (wdC cI cZ a σ2) sz r) args s 0 0 (aN 30 a sz)) = Q at rt ⊢
  unfold fX5_reach at h
  refine lv_iload_n hx hb dX5_reach_0 rfl (lv_at hl 1 rfl) ?_
  refine lv_if_lt (tgt := 9) hx hb dX5_reach_1 (by decide) (fun c1 => ?_) (fun c1 => ?_)
  · replace h := ite_t c1 h
    refine lv_sipush (v := (-1002 : Int32)) hx hb dX5_reach_9 (by decide) ?_
    exact rt (-1002 : Int32) σ 12 _ _ _ dX5_reach_12 h hz
  · replace h := ite_f c1 h
    refine lv_iload_n hx hb dX5_reach_4 rfl (lv_at hl 1 rfl) ?_
    refine lv_iconst (v := (2 : Int32)) hx hb dX5_reach_5 (by decide) ?_
    refine lv_icmp_le (tgt := 13) hx hb dX5_reach_6 (by decide) (fun c2 => ?_) (fun c2 => ?_)
    · replace h := ite_t c2 h
      refine lv_iload_n hx hb dX5_reach_13 rfl (lv_at hl 2 rfl) ?_
      refine va_gets hx hb hTb.1 hz.2 hown (hts _ (List.mem_of_getElem? (i := 1) rfl)) (fun _ h9 => h9) dX5_reach_14 ?_
      refine lv_iload_n hx hb dX5_reach_17 rfl (lv_at hl 1 rfl) ?_
      obtain ⟨c3, h⟩ := ck_e h
      refine va_ti (v := .int (lr (Int32.toNatClampNeg x1))) hx hb hTb.2.1 hz.2 c3 rfl dX5_reach_18 ?_
      refine lv_icmp_lt (tgt := 31) hx hb dX5_reach_19 (by decide) (fun c4 => ?_) (fun c4 => ?_)
      · replace h := ite_t c4 h
        refine lv_sipush (v := (-1002 : Int32)) hx hb dX5_reach_31 (by decide) ?_
        exact rt (-1002 : Int32) σ 34 _ _ _ dX5_reach_34 h hz
      · replace h := ite_f c4 h
        refine lv_iload_n hx hb dX5_reach_22 rfl (lv_at hl 2 rfl) ?_
        refine va_gets hx hb hTb.2.2.1 hz.2 hown (hts _ (List.mem_of_getElem? (i := 2) rfl)) (fun _ h9 => h9) dX5_reach_23 ?_
        refine lv_iload_n hx hb dX5_reach_26 rfl (lv_at hl 1 rfl) ?_
        obtain ⟨c5, h⟩ := ck_e h
        refine va_ti (v := .int (mr (Int32.toNatClampNeg x1))) hx hb hTb.2.2.2 hz.2 c5 rfl dX5_reach_27 ?_
        refine lv_icmp_le (tgt := 35) hx hb dX5_reach_28 (by decide) (fun c6 => ?_) (fun c6 => ?_)
        · replace h := ite_t c6 h
          refine lv_aload_n hx hb dX5_reach_35 rfl (lv_at hl 0 rfl) ?_
          refine va_get (v := .ref (a 10)) hx hb hts inX5_reach_X5 hown hKK.1 hz.1 0 rfl rfl 3 (by decide) (hts _ (List.mem_of_getElem? (i := 3) rfl)) (fun _ h9 => h9) rfl dX5_reach_36 ?_
          refine lv_iload_n hx hb dX5_reach_39 rfl (lv_at hl 1 rfl) ?_
          obtain ⟨c7, h⟩ := ck_e h
          refine va_iald (f := (σ 10)) hx hb hKK.1 hz.1 10 0 rfl rfl c7 dX5_reach_40 ?_
          refine lv_istore_n (lv' := [(3, .int ((σ 10) (Int32.toNatClampNeg x1))), (0, .ref (a 0)), (1, .int x1), (2, .int x2)]) hx hb dX5_reach_41 rfl hl (by decide) rfl (fun ls hl => ?_)
          refine lv_aload_n hx hb dX5_reach_42 rfl (lv_at hl 1 rfl) ?_
          refine va_get (v := .ref (a 10)) hx hb hts inX5_reach_X5 hown hKK.1 hz.1 0 rfl rfl 3 (by decide) (hts _ (List.mem_of_getElem? (i := 3) rfl)) (fun _ h9 => h9) rfl dX5_reach_43 ?_
          refine lv_iload_n hx hb dX5_reach_46 rfl (lv_at hl 2 rfl) ?_
          refine lv_iload_n hx hb dX5_reach_47 rfl (lv_at hl 3 rfl) ?_
          obtain ⟨c8, h⟩ := ck_e h
          refine ziast (f := σ 10) (w' := wdC cI cZ a (sa σ 10 (Int32.toNatClampNeg x1) x2)) hx hb hKK hok wkC hz 10 rfl c8 setCa_10 dX5_reach_48 (fun H locs hz => ?_)
          refine lv_aload_n hx hb dX5_reach_49 rfl (lv_at hl 1 rfl) ?_
          refine lv_dup hx hb dX5_reach_50 rfl ?_
          refine va_get (v := .int (σ 41 0)) hx hb hts inX5_reach_X5 hown hKK.1 hz.1 0 rfl rfl 6 (by decide) (hts _ (List.mem_of_getElem? (i := 4) rfl)) (fun _ h9 => h9) rfl dX5_reach_51 ?_
          refine lv_iconst (v := (1 : Int32)) hx hb dX5_reach_54 (by decide) ?_
          refine lv_iadd hx hb dX5_reach_55 ?_
          refine zput (ty := .int) (w' := wdC cI cZ a (si (sa σ 10 (Int32.toNatClampNeg x1) x2) 41 ((σ 41 0) + (1 : Int32)))) hx hb hts inX5_reach_X5 tyX5 tyX5_ok nmX5 hown hKK hok wkC hz 0 rfl rfl 6 (by decide) (hts _ (List.mem_of_getElem? (i := 4) rfl)) (fun _ h9 => h9) rfl rfl rfl rfl (Nat.le_of_ble_eq_true rfl) setCi_41 dX5_reach_56 (fun H locs hz => ?_)
          refine lv_aload_n hx hb dX5_reach_59 rfl (lv_at hl 1 rfl) ?_
          refine va_get (v := .ref (a 11)) hx hb hts inX5_reach_X5 hown hKK.1 hz.1 0 rfl rfl 4 (by decide) (hts _ (List.mem_of_getElem? (i := 5) rfl)) (fun _ h9 => h9) rfl dX5_reach_60 ?_
          obtain ⟨s10, e11, h⟩ := bd1_e h
          refine zcallVv (As := []) (rest := []) CF hKK (KX2_placeAll (dC := dC) (dI := dI) (cI := cI) (cZ := cZ) (a := a) hok e11) (cwV 0 hts gX5_reach_X2_placeAll rfl rfl rfl cdX2_placeAll ⟨Nat.le_of_ble_eq_true rfl, Nat.le_of_ble_eq_true rfl⟩) 11 2 rfl rfl hz rfl hl.1 rfl (Nat.le_of_ble_eq_true rfl) dX5_reach_63 ⟨Nat.le_refl _, Nat.le_refl _⟩ (fun H locs hz => ?_)
          refine lv_iload_n hx hb dX5_reach_66 rfl (lv_at hl 0 rfl) ?_
          exact rt ((σ 10) (Int32.toNatClampNeg x1)) s10 67 _ _ _ dX5_reach_67 h hz
        · replace h := ite_f c6 h
          refine lv_sipush (v := (-1002 : Int32)) hx hb dX5_reach_31 (by decide) ?_
          exact rt (-1002 : Int32) σ 34 _ _ _ dX5_reach_34 h hz
    · replace h := ite_f c2 h
      refine lv_sipush (v := (-1002 : Int32)) hx hb dX5_reach_9 (by decide) ?_
      exact rt (-1002 : Int32) σ 12 _ _ _ dX5_reach_12 h hz
def fX5_grow (σ : St) (x1 : Int32) (x2 : Int32) : Option (Int32 × St) :=
  (bd1 (fX0_has_p σ x1) fun r1 => (if r1 = 0 then (some ((-1001 : Int32), σ)) else ((if x2 < (1 : Int32) then (some ((-1002 : Int32), σ)) else ((if x2 ≤ (40 : Int32) then ((bd1 (fX0_kindOf_p σ x1) fun r7 => (if r7 = 0 then ((bd1 (fX0_toldOf_p σ x1) fun r11 => (bd1 (fX0_tell_p σ x1 x2) fun s15 => (bd1 (fX2_placeAll (si s15 41 ((s15 41 0) + (1 : Int32))) ) fun s18 => some (r11, s18))))) else (some ((-1003 : Int32), σ))))) else (some ((-1002 : Int32), σ))))))))
abbrev rmX5_grow : Room := { frames := 6, cells := 0, slots := 0, locals := 138 }
set_option maxHeartbeats 4000000 in
set_option maxRecDepth 100000 in
theorem KX5_grow {l : Launch} {dC : Nat → ClassId} {dI : Nat → Nat → Nat} {cI cZ : ClassId} {a : Nat → Nat} {σ : St} {x1 : Int32} {x2 : Int32} {r : Int32} {σ2 : St} (hok : okA 30 a) (h : fX5_grow σ x1 x2 = some (r, σ2)) (sz : Nat) : Met l yX5_grow wsX5_grow rmX5_grow (Pz (dC, dI) cI cZ (wdC cI cZ a σ) sz [.ref (a 0), .int x1, .int x2]) (Qzi (dC, dI) 30 a (wdC cI cZ a σ2) sz r) 0 0 (aN 30 a sz) := by
  refine Met.ofW (cc := cX5_grow) (maxL := 4) (ret := (some .int)) (by decide) rfl ?_
  intro p e s m args below meth c s₁ B hml hv
  obtain ⟨hav, hsz, hP, hKK⟩ := hv
  have hx := B.exec
  have hb := B.bytes
  have hr := B.returns
  have hts := atoms_spec (ws := wsX5_grow) B.pre
  have hown : s.vm.findClass RX5 = some m.cls := findClass_of_methodNamed B.named
  have hlocks := B.notSynchronized
  have CF : CallFix p m c cX5_grow 4 s args wsX5_grow RX5 := ⟨hx, hb, hml, hown, hts⟩
  have hz : zz (dC, dI) 30 a (wdC cI cZ a σ) s.heap s.heap [] := ⟨hP, va_S.rf⟩
  have hl := lv_entry [.ref (a 0), .int x1, .int x2] (n := 4) (Nat.le_of_ble_eq_true rfl)
  have hen : entryFrame m args 4 = entryFrame m ([.ref (a 0), .int x1, .int x2] : List Value).toArray 4 := by rw [hav]
  rw [hen, lg_entry_eq]
  generalize (lg_sl [.ref (a 0), .int x1, .int x2] ++ List.replicate (4 - (lg_sl [.ref (a 0), .int x1, .int x2]).length) Slot.unset).toArray = ls at hl ⊢
  have hl : lv_has ls 4 [(0, .ref (a 0)), (1, .int x1), (2, .int x2)] := hl
  have eR : (headSpec wsX5_grow rmX5_grow).room = rmX5_grow := rfl
  rw [eR]
  have rt : ∀ (v : Int32) (t : St) (pc : Nat) (H : Heap) (locs : List Loc) (ls : Array Slot), decode cX5_grow pc = .ok (.ireturn, 1) → some (v, t) = some (r, σ2) → zz (dC, dI) 30 a (wdC cI cZ a t) s.heap H locs → W p l e rmX5_grow s m args below meth c H locs 0 0 (MQ below (Qzi (dC, dI) 30 a (wdC cI cZ a σ2) sz r) args s 0 0 (aN 30 a sz)) (F0 m pc ls [.int v]) := by
    intro v t pc H locs ls hd h hz
    cases h
    exact ziret hsz hx hb hr hlocks hz hd
  generalize (MQ below (Qzi (dC, dI) 30 a (wdC cI cZ a σ2) sz r) args s 0 0 (aN 30 a sz)) = Q at rt ⊢
  unfold fX5_grow at h
  refine lv_aload_n hx hb dX5_grow_0 rfl (lv_at hl 0 rfl) ?_
  refine va_get (v := .ref (a 7)) hx hb hts inX5_grow_X5 hown hKK.1 hz.1 0 rfl rfl 2 (by decide) (hts _ (List.mem_of_getElem? (i := 1) rfl)) (fun _ h9 => h9) rfl dX5_grow_1 ?_
  refine lv_iload_n hx hb dX5_grow_4 rfl (lv_at hl 1 rfl) ?_
  obtain ⟨r1, e3, h⟩ := bd1_e h
  refine zcallVi (As := [.int x1]) (rest := []) CF hKK (KX0_has_p (dC := dC) (dI := dI) (cI := cI) (cZ := cZ) (a := a) hok e3) (cwV 1 hts gX5_grow_X0_has rfl rfl rfl cdX0_has ⟨Nat.le_of_ble_eq_true rfl, Nat.le_of_ble_eq_true rfl⟩) 7 0 rfl rfl hz rfl hl.1 rfl (Nat.le_of_ble_eq_true rfl) dX5_grow_5 ⟨Nat.le_refl _, Nat.le_refl _⟩ (fun H locs hz => ?_)
  refine lv_if_ne (tgt := 15) hx hb dX5_grow_8 (by decide) (fun c4 => ?_) (fun c4 => ?_)
  · replace h := ite_f c4 h
    refine lv_iload_n hx hb dX5_grow_15 rfl (lv_at hl 2 rfl) ?_
    refine lv_iconst (v := (1 : Int32)) hx hb dX5_grow_16 (by decide) ?_
    refine lv_icmp_lt (tgt := 26) hx hb dX5_grow_17 (by decide) (fun c5 => ?_) (fun c5 => ?_)
    · replace h := ite_t c5 h
      refine lv_sipush (v := (-1002 : Int32)) hx hb dX5_grow_26 (by decide) ?_
      exact rt (-1002 : Int32) σ 29 _ _ _ dX5_grow_29 h hz
    · replace h := ite_f c5 h
      refine lv_iload_n hx hb dX5_grow_20 rfl (lv_at hl 2 rfl) ?_
      refine lv_bipush (v := (40 : Int32)) hx hb dX5_grow_21 (by decide) ?_
      refine lv_icmp_le (tgt := 30) hx hb dX5_grow_23 (by decide) (fun c6 => ?_) (fun c6 => ?_)
      · replace h := ite_t c6 h
        refine lv_aload_n hx hb dX5_grow_30 rfl (lv_at hl 0 rfl) ?_
        refine va_get (v := .ref (a 7)) hx hb hts inX5_grow_X5 hown hKK.1 hz.1 0 rfl rfl 2 (by decide) (hts _ (List.mem_of_getElem? (i := 1) rfl)) (fun _ h9 => h9) rfl dX5_grow_31 ?_
        refine lv_iload_n hx hb dX5_grow_34 rfl (lv_at hl 1 rfl) ?_
        obtain ⟨r7, e9, h⟩ := bd1_e h
        refine zcallVi (As := [.int x1]) (rest := []) CF hKK (KX0_kindOf_p (dC := dC) (dI := dI) (cI := cI) (cZ := cZ) (a := a) hok e9) (cwV 1 hts gX5_grow_X0_kindOf rfl rfl rfl cdX0_kindOf ⟨Nat.le_of_ble_eq_true rfl, Nat.le_of_ble_eq_true rfl⟩) 7 0 rfl rfl hz rfl hl.1 rfl (Nat.le_of_ble_eq_true rfl) dX5_grow_35 ⟨Nat.le_refl _, Nat.le_refl _⟩ (fun H locs hz => ?_)
        refine lv_if_eq (tgt := 45) hx hb dX5_grow_38 (by decide) (fun c10 => ?_) (fun c10 => ?_)
        · replace h := ite_t c10 h
          refine lv_aload_n hx hb dX5_grow_45 rfl (lv_at hl 0 rfl) ?_
          refine va_get (v := .ref (a 7)) hx hb hts inX5_grow_X5 hown hKK.1 hz.1 0 rfl rfl 2 (by decide) (hts _ (List.mem_of_getElem? (i := 1) rfl)) (fun _ h9 => h9) rfl dX5_grow_46 ?_
          refine lv_iload_n hx hb dX5_grow_49 rfl (lv_at hl 1 rfl) ?_
          obtain ⟨r11, e13, h⟩ := bd1_e h
          refine zcallVi (As := [.int x1]) (rest := []) CF hKK (KX0_toldOf_p (dC := dC) (dI := dI) (cI := cI) (cZ := cZ) (a := a) hok e13) (cwV 1 hts gX5_grow_X0_toldOf rfl rfl rfl cdX0_toldOf ⟨Nat.le_of_ble_eq_true rfl, Nat.le_of_ble_eq_true rfl⟩) 7 0 rfl rfl hz rfl hl.1 rfl (Nat.le_of_ble_eq_true rfl) dX5_grow_50 ⟨Nat.le_refl _, Nat.le_refl _⟩ (fun H locs hz => ?_)
          refine lv_istore_n (lv' := [(3, .int r11), (0, .ref (a 0)), (1, .int x1), (2, .int x2)]) hx hb dX5_grow_53 rfl hl (by decide) rfl (fun ls hl => ?_)
          refine lv_aload_n hx hb dX5_grow_54 rfl (lv_at hl 1 rfl) ?_
          refine va_get (v := .ref (a 7)) hx hb hts inX5_grow_X5 hown hKK.1 hz.1 0 rfl rfl 2 (by decide) (hts _ (List.mem_of_getElem? (i := 1) rfl)) (fun _ h9 => h9) rfl dX5_grow_55 ?_
          refine lv_iload_n hx hb dX5_grow_58 rfl (lv_at hl 2 rfl) ?_
          refine lv_iload_n hx hb dX5_grow_59 rfl (lv_at hl 3 rfl) ?_
          obtain ⟨s15, e16, h⟩ := bd1_e h
          refine zcallVv (As := [.int x1, .int x2]) (rest := []) CF hKK (KX0_tell_p (dC := dC) (dI := dI) (cI := cI) (cZ := cZ) (a := a) hok e16) (cwV 2 hts gX5_grow_X0_tell rfl rfl rfl cdX0_tell ⟨Nat.le_of_ble_eq_true rfl, Nat.le_of_ble_eq_true rfl⟩) 7 0 rfl rfl hz rfl hl.1 rfl (Nat.le_of_ble_eq_true rfl) dX5_grow_60 ⟨Nat.le_refl _, Nat.le_refl _⟩ (fun H locs hz => ?_)
          refine lv_aload_n hx hb dX5_grow_63 rfl (lv_at hl 1 rfl) ?_
          refine lv_dup hx hb dX5_grow_64 rfl ?_
          refine va_get (v := .int (s15 41 0)) hx hb hts inX5_grow_X5 hown hKK.1 hz.1 0 rfl rfl 6 (by decide) (hts _ (List.mem_of_getElem? (i := 2) rfl)) (fun _ h9 => h9) rfl dX5_grow_65 ?_
          refine lv_iconst (v := (1 : Int32)) hx hb dX5_grow_68 (by decide) ?_
          refine lv_iadd hx hb dX5_grow_69 ?_
          refine zput (ty := .int) (w' := wdC cI cZ a (si s15 41 ((s15 41 0) + (1 : Int32)))) hx hb hts inX5_grow_X5 tyX5 tyX5_ok nmX5 hown hKK hok wkC hz 0 rfl rfl 6 (by decide) (hts _ (List.mem_of_getElem? (i := 2) rfl)) (fun _ h9 => h9) rfl rfl rfl rfl (Nat.le_of_ble_eq_true rfl) setCi_41 dX5_grow_70 (fun H locs hz => ?_)
          refine lv_aload_n hx hb dX5_grow_73 rfl (lv_at hl 1 rfl) ?_
          refine va_get (v := .ref (a 11)) hx hb hts inX5_grow_X5 hown hKK.1 hz.1 0 rfl rfl 4 (by decide) (hts _ (List.mem_of_getElem? (i := 3) rfl)) (fun _ h9 => h9) rfl dX5_grow_74 ?_
          obtain ⟨s18, e19, h⟩ := bd1_e h
          refine zcallVv (As := []) (rest := []) CF hKK (KX2_placeAll (dC := dC) (dI := dI) (cI := cI) (cZ := cZ) (a := a) hok e19) (cwV 0 hts gX5_grow_X2_placeAll rfl rfl rfl cdX2_placeAll ⟨Nat.le_of_ble_eq_true rfl, Nat.le_of_ble_eq_true rfl⟩) 11 2 rfl rfl hz rfl hl.1 rfl (Nat.le_of_ble_eq_true rfl) dX5_grow_77 ⟨Nat.le_refl _, Nat.le_refl _⟩ (fun H locs hz => ?_)
          refine lv_iload_n hx hb dX5_grow_80 rfl (lv_at hl 0 rfl) ?_
          exact rt r11 s18 81 _ _ _ dX5_grow_81 h hz
        · replace h := ite_f c10 h
          refine lv_sipush (v := (-1003 : Int32)) hx hb dX5_grow_41 (by decide) ?_
          exact rt (-1003 : Int32) σ 44 _ _ _ dX5_grow_44 h hz
      · replace h := ite_f c6 h
        refine lv_sipush (v := (-1002 : Int32)) hx hb dX5_grow_26 (by decide) ?_
        exact rt (-1002 : Int32) σ 29 _ _ _ dX5_grow_29 h hz
  · replace h := ite_t c4 h
    refine lv_sipush (v := (-1001 : Int32)) hx hb dX5_grow_11 (by decide) ?_
    exact rt (-1001 : Int32) σ 14 _ _ _ dX5_grow_14 h hz
def fX5_item (σ : St) (x1 : Int32) (x2 : Int32) : Option (Int32) :=
  (bd1 (fX0_has_p σ x1) fun r1 => (if r1 = 0 then (some (-1001 : Int32)) else ((if x2 = (0 : Int32) then ((bd1 (fX0_kindOf_p σ x1) fun r6 => some r6)) else (if x2 = (1 : Int32) then ((bd1 (fX0_toldOf_p σ x1) fun r10 => some r10)) else (if x2 = (2 : Int32) then ((bd1 (fX2_addressOf σ x1) fun r14 => some r14)) else (if x2 = (3 : Int32) then ((bd1 (fX2_sizeOf σ x1) fun r18 => some r18)) else (if x2 = (4 : Int32) then ((bd1 (fX2_isLong σ x1) fun r22 => (if r22 = 0 then (some (0 : Int32)) else (some (1 : Int32))))) else (if x2 = (5 : Int32) then ((bd1 (fX2_aimOf σ x1) fun r27 => some r27)) else some (-1002 : Int32))))))))))
abbrev rmX5_item : Room := { frames := 2, cells := 0, slots := 0, locals := 42 }
set_option maxHeartbeats 4000000 in
set_option maxRecDepth 100000 in
theorem KX5_item {l : Launch} {dC : Nat → ClassId} {dI : Nat → Nat → Nat} {cI cZ : ClassId} {a : Nat → Nat} {σ : St} {x1 : Int32} {x2 : Int32} {r : Int32} (hok : okA 30 a) (h : fX5_item σ x1 x2 = some r) (sz : Nat) : Met l yX5_item wsX5_item rmX5_item (Pz (dC, dI) cI cZ (wdC cI cZ a σ) sz [.ref (a 0), .int x1, .int x2]) (Qzi (dC, dI) 30 a (wdC cI cZ a σ) sz r) 0 0 (aN 30 a sz) := by
  refine Met.ofW (cc := cX5_item) (maxL := 3) (ret := (some .int)) (by decide) rfl ?_
  intro p e s m args below meth c s₁ B hml hv
  obtain ⟨hav, hsz, hP, hKK⟩ := hv
  have hx := B.exec
  have hb := B.bytes
  have hr := B.returns
  have hts := atoms_spec (ws := wsX5_item) B.pre
  have hown : s.vm.findClass RX5 = some m.cls := findClass_of_methodNamed B.named
  have hlocks := B.notSynchronized
  have CF : CallFix p m c cX5_item 3 s args wsX5_item RX5 := ⟨hx, hb, hml, hown, hts⟩
  have hz : zz (dC, dI) 30 a (wdC cI cZ a σ) s.heap s.heap [] := ⟨hP, va_S.rf⟩
  have hl := lv_entry [.ref (a 0), .int x1, .int x2] (n := 3) (Nat.le_of_ble_eq_true rfl)
  have hen : entryFrame m args 3 = entryFrame m ([.ref (a 0), .int x1, .int x2] : List Value).toArray 3 := by rw [hav]
  rw [hen, lg_entry_eq]
  generalize (lg_sl [.ref (a 0), .int x1, .int x2] ++ List.replicate (3 - (lg_sl [.ref (a 0), .int x1, .int x2]).length) Slot.unset).toArray = ls at hl ⊢
  have hl : lv_has ls 3 [(0, .ref (a 0)), (1, .int x1), (2, .int x2)] := hl
  have eR : (headSpec wsX5_item rmX5_item).room = rmX5_item := rfl
  rw [eR]
  have rt : ∀ (v : Int32) (t : St) (pc : Nat) (H : Heap) (locs : List Loc) (ls : Array Slot), decode cX5_item pc = .ok (.ireturn, 1) → some v = some r → zz (dC, dI) 30 a (wdC cI cZ a σ) s.heap H locs → W p l e rmX5_item s m args below meth c H locs 0 0 (MQ below (Qzi (dC, dI) 30 a (wdC cI cZ a σ) sz r) args s 0 0 (aN 30 a sz)) (F0 m pc ls [.int v]) := by
    intro v t pc H locs ls hd h hz
    cases h
    exact ziret hsz hx hb hr hlocks hz hd
  generalize (MQ below (Qzi (dC, dI) 30 a (wdC cI cZ a σ) sz r) args s 0 0 (aN 30 a sz)) = Q at rt ⊢
  unfold fX5_item at h
  refine lv_aload_n hx hb dX5_item_0 rfl (lv_at hl 0 rfl) ?_
  refine va_get (v := .ref (a 7)) hx hb hts inX5_item_X5 hown hKK.1 hz.1 0 rfl rfl 2 (by decide) (hts _ (List.mem_of_getElem? (i := 1) rfl)) (fun _ h9 => h9) rfl dX5_item_1 ?_
  refine lv_iload_n hx hb dX5_item_4 rfl (lv_at hl 1 rfl) ?_
  obtain ⟨r1, e3, h⟩ := bd1_e h
  refine zcallVi (As := [.int x1]) (rest := []) CF hKK (KX0_has_p (dC := dC) (dI := dI) (cI := cI) (cZ := cZ) (a := a) hok e3) (cwV 1 hts gX5_item_X0_has rfl rfl rfl cdX0_has ⟨Nat.le_of_ble_eq_true rfl, Nat.le_of_ble_eq_true rfl⟩) 7 0 rfl rfl hz rfl hl.1 rfl (Nat.le_of_ble_eq_true rfl) dX5_item_5 ⟨Nat.le_refl _, Nat.le_refl _⟩ (fun H locs hz => ?_)
  refine lv_if_ne (tgt := 15) hx hb dX5_item_8 (by decide) (fun c4 => ?_) (fun c4 => ?_)
  · replace h := ite_f c4 h
    refine lv_iload_n hx hb dX5_item_15 rfl (lv_at hl 2 rfl) ?_
    by_cases c5 : x2 = (0 : Int32)
    · replace h := ite_t c5 h
      refine lv_tableIn (tgt := 56) (off := 40) hx hb dX5_item_16 (by rw [c5]; decide) (by rw [c5]; decide) (by rw [c5]; rfl) (by decide) ?_
      refine lv_aload_n hx hb dX5_item_56 rfl (lv_at hl 0 rfl) ?_
      refine va_get (v := .ref (a 7)) hx hb hts inX5_item_X5 hown hKK.1 hz.1 0 rfl rfl 2 (by decide) (hts _ (List.mem_of_getElem? (i := 1) rfl)) (fun _ h9 => h9) rfl dX5_item_57 ?_
      refine lv_iload_n hx hb dX5_item_60 rfl (lv_at hl 1 rfl) ?_
      obtain ⟨r6, e8, h⟩ := bd1_e h
      refine zcallVi (As := [.int x1]) (rest := []) CF hKK (KX0_kindOf_p (dC := dC) (dI := dI) (cI := cI) (cZ := cZ) (a := a) hok e8) (cwV 1 hts gX5_item_X0_kindOf rfl rfl rfl cdX0_kindOf ⟨Nat.le_of_ble_eq_true rfl, Nat.le_of_ble_eq_true rfl⟩) 7 0 rfl rfl hz rfl hl.1 rfl (Nat.le_of_ble_eq_true rfl) dX5_item_61 ⟨Nat.le_refl _, Nat.le_refl _⟩ (fun H locs hz => ?_)
      exact rt r6 σ 64 _ _ _ dX5_item_64 h hz
    replace h := ite_f c5 h
    by_cases c9 : x2 = (1 : Int32)
    · replace h := ite_t c9 h
      refine lv_tableIn (tgt := 65) (off := 49) hx hb dX5_item_16 (by rw [c9]; decide) (by rw [c9]; decide) (by rw [c9]; rfl) (by decide) ?_
      refine lv_aload_n hx hb dX5_item_65 rfl (lv_at hl 0 rfl) ?_
      refine va_get (v := .ref (a 7)) hx hb hts inX5_item_X5 hown hKK.1 hz.1 0 rfl rfl 2 (by decide) (hts _ (List.mem_of_getElem? (i := 1) rfl)) (fun _ h9 => h9) rfl dX5_item_66 ?_
      refine lv_iload_n hx hb dX5_item_69 rfl (lv_at hl 1 rfl) ?_
      obtain ⟨r10, e12, h⟩ := bd1_e h
      refine zcallVi (As := [.int x1]) (rest := []) CF hKK (KX0_toldOf_p (dC := dC) (dI := dI) (cI := cI) (cZ := cZ) (a := a) hok e12) (cwV 1 hts gX5_item_X0_toldOf rfl rfl rfl cdX0_toldOf ⟨Nat.le_of_ble_eq_true rfl, Nat.le_of_ble_eq_true rfl⟩) 7 0 rfl rfl hz rfl hl.1 rfl (Nat.le_of_ble_eq_true rfl) dX5_item_70 ⟨Nat.le_refl _, Nat.le_refl _⟩ (fun H locs hz => ?_)
      exact rt r10 σ 73 _ _ _ dX5_item_73 h hz
    replace h := ite_f c9 h
    by_cases c13 : x2 = (2 : Int32)
    · replace h := ite_t c13 h
      refine lv_tableIn (tgt := 74) (off := 58) hx hb dX5_item_16 (by rw [c13]; decide) (by rw [c13]; decide) (by rw [c13]; rfl) (by decide) ?_
      refine lv_aload_n hx hb dX5_item_74 rfl (lv_at hl 0 rfl) ?_
      refine va_get (v := .ref (a 11)) hx hb hts inX5_item_X5 hown hKK.1 hz.1 0 rfl rfl 4 (by decide) (hts _ (List.mem_of_getElem? (i := 2) rfl)) (fun _ h9 => h9) rfl dX5_item_75 ?_
      refine lv_iload_n hx hb dX5_item_78 rfl (lv_at hl 1 rfl) ?_
      obtain ⟨r14, e16, h⟩ := bd1_e h
      refine zcallVi (As := [.int x1]) (rest := []) CF hKK (KX2_addressOf (dC := dC) (dI := dI) (cI := cI) (cZ := cZ) (a := a) hok e16) (cwV 1 hts gX5_item_X2_addressOf rfl rfl rfl cdX2_addressOf ⟨Nat.le_of_ble_eq_true rfl, Nat.le_of_ble_eq_true rfl⟩) 11 2 rfl rfl hz rfl hl.1 rfl (Nat.le_of_ble_eq_true rfl) dX5_item_79 ⟨Nat.le_refl _, Nat.le_refl _⟩ (fun H locs hz => ?_)
      exact rt r14 σ 82 _ _ _ dX5_item_82 h hz
    replace h := ite_f c13 h
    by_cases c17 : x2 = (3 : Int32)
    · replace h := ite_t c17 h
      refine lv_tableIn (tgt := 83) (off := 67) hx hb dX5_item_16 (by rw [c17]; decide) (by rw [c17]; decide) (by rw [c17]; rfl) (by decide) ?_
      refine lv_aload_n hx hb dX5_item_83 rfl (lv_at hl 0 rfl) ?_
      refine va_get (v := .ref (a 11)) hx hb hts inX5_item_X5 hown hKK.1 hz.1 0 rfl rfl 4 (by decide) (hts _ (List.mem_of_getElem? (i := 2) rfl)) (fun _ h9 => h9) rfl dX5_item_84 ?_
      refine lv_iload_n hx hb dX5_item_87 rfl (lv_at hl 1 rfl) ?_
      obtain ⟨r18, e20, h⟩ := bd1_e h
      refine zcallVi (As := [.int x1]) (rest := []) CF hKK (KX2_sizeOf (dC := dC) (dI := dI) (cI := cI) (cZ := cZ) (a := a) hok e20) (cwV 1 hts gX5_item_X2_sizeOf rfl rfl rfl cdX2_sizeOf ⟨Nat.le_of_ble_eq_true rfl, Nat.le_of_ble_eq_true rfl⟩) 11 2 rfl rfl hz rfl hl.1 rfl (Nat.le_of_ble_eq_true rfl) dX5_item_88 ⟨Nat.le_refl _, Nat.le_refl _⟩ (fun H locs hz => ?_)
      exact rt r18 σ 91 _ _ _ dX5_item_91 h hz
    replace h := ite_f c17 h
    by_cases c21 : x2 = (4 : Int32)
    · replace h := ite_t c21 h
      refine lv_tableIn (tgt := 92) (off := 76) hx hb dX5_item_16 (by rw [c21]; decide) (by rw [c21]; decide) (by rw [c21]; rfl) (by decide) ?_
      refine lv_aload_n hx hb dX5_item_92 rfl (lv_at hl 0 rfl) ?_
      refine va_get (v := .ref (a 11)) hx hb hts inX5_item_X5 hown hKK.1 hz.1 0 rfl rfl 4 (by decide) (hts _ (List.mem_of_getElem? (i := 2) rfl)) (fun _ h9 => h9) rfl dX5_item_93 ?_
      refine lv_iload_n hx hb dX5_item_96 rfl (lv_at hl 1 rfl) ?_
      obtain ⟨r22, e24, h⟩ := bd1_e h
      refine zcallVi (As := [.int x1]) (rest := []) CF hKK (KX2_isLong (dC := dC) (dI := dI) (cI := cI) (cZ := cZ) (a := a) hok e24) (cwV 1 hts gX5_item_X2_isLong rfl rfl rfl cdX2_isLong ⟨Nat.le_of_ble_eq_true rfl, Nat.le_of_ble_eq_true rfl⟩) 11 2 rfl rfl hz rfl hl.1 rfl (Nat.le_of_ble_eq_true rfl) dX5_item_97 ⟨Nat.le_refl _, Nat.le_refl _⟩ (fun H locs hz => ?_)
      refine lv_if_eq (tgt := 107) hx hb dX5_item_100 (by decide) (fun c25 => ?_) (fun c25 => ?_)
      · replace h := ite_t c25 h
        refine lv_iconst (v := (0 : Int32)) hx hb dX5_item_107 (by decide) ?_
        exact rt (0 : Int32) σ 108 _ _ _ dX5_item_108 h hz
      · replace h := ite_f c25 h
        refine lv_iconst (v := (1 : Int32)) hx hb dX5_item_103 (by decide) ?_
        refine lv_goto (tgt := 108) hx hb dX5_item_104 (by decide) ?_
        exact rt (1 : Int32) σ 108 _ _ _ dX5_item_108 h hz
    replace h := ite_f c21 h
    by_cases c26 : x2 = (5 : Int32)
    · replace h := ite_t c26 h
      refine lv_tableIn (tgt := 109) (off := 93) hx hb dX5_item_16 (by rw [c26]; decide) (by rw [c26]; decide) (by rw [c26]; rfl) (by decide) ?_
      refine lv_aload_n hx hb dX5_item_109 rfl (lv_at hl 0 rfl) ?_
      refine va_get (v := .ref (a 11)) hx hb hts inX5_item_X5 hown hKK.1 hz.1 0 rfl rfl 4 (by decide) (hts _ (List.mem_of_getElem? (i := 2) rfl)) (fun _ h9 => h9) rfl dX5_item_110 ?_
      refine lv_iload_n hx hb dX5_item_113 rfl (lv_at hl 1 rfl) ?_
      obtain ⟨r27, e29, h⟩ := bd1_e h
      refine zcallVi (As := [.int x1]) (rest := []) CF hKK (KX2_aimOf (dC := dC) (dI := dI) (cI := cI) (cZ := cZ) (a := a) hok e29) (cwV 1 hts gX5_item_X2_aimOf rfl rfl rfl cdX2_aimOf ⟨Nat.le_of_ble_eq_true rfl, Nat.le_of_ble_eq_true rfl⟩) 11 2 rfl rfl hz rfl hl.1 rfl (Nat.le_of_ble_eq_true rfl) dX5_item_114 ⟨Nat.le_refl _, Nat.le_refl _⟩ (fun H locs hz => ?_)
      exact rt r27 σ 117 _ _ _ dX5_item_117 h hz
    replace h := ite_f c26 h
    refine lv_tableOut (tgt := 118) hx hb dX5_item_16 (by have := lv_neT c5 (a := 0) rfl; have := lv_neT c9 (a := 1) rfl; have := lv_neT c13 (a := 2) rfl; have := lv_neT c17 (a := 3) rfl; have := lv_neT c21 (a := 4) rfl; have := lv_neT c26 (a := 5) rfl; omega) (by decide) ?_
    refine lv_sipush (v := (-1002 : Int32)) hx hb dX5_item_118 (by decide) ?_
    exact rt (-1002 : Int32) σ 121 _ _ _ dX5_item_121 h hz
  · replace h := ite_t c4 h
    refine lv_sipush (v := (-1001 : Int32)) hx hb dX5_item_11 (by decide) ?_
    exact rt (-1001 : Int32) σ 14 _ _ _ dX5_item_14 h hz
def fX5_island (σ : St) (x1 : Int32) (x2 : Int32) : Option (Int32) :=
  (bd1 (fX4_has_i σ x1) fun r1 => (if r1 = 0 then (some (-1001 : Int32)) else ((if x2 = (0 : Int32) then ((bd1 (fX4_nameOf_i σ x1) fun r6 => some r6)) else (if x2 = (1 : Int32) then ((bd1 (fX4_returnOf_i σ x1) fun r10 => some r10)) else (if x2 = (2 : Int32) then ((bd1 (fX4_addressOf_i σ x1) fun r14 => some r14)) else (if x2 = (3 : Int32) then ((bd1 (fX2_islandAimOf σ x1) fun r18 => some r18)) else some (-1002 : Int32))))))))
abbrev rmX5_island : Room := { frames := 2, cells := 0, slots := 0, locals := 43 }
set_option maxHeartbeats 4000000 in
set_option maxRecDepth 100000 in
theorem KX5_island {l : Launch} {dC : Nat → ClassId} {dI : Nat → Nat → Nat} {cI cZ : ClassId} {a : Nat → Nat} {σ : St} {x1 : Int32} {x2 : Int32} {r : Int32} (hok : okA 30 a) (h : fX5_island σ x1 x2 = some r) (sz : Nat) : Met l yX5_island wsX5_island rmX5_island (Pz (dC, dI) cI cZ (wdC cI cZ a σ) sz [.ref (a 0), .int x1, .int x2]) (Qzi (dC, dI) 30 a (wdC cI cZ a σ) sz r) 0 0 (aN 30 a sz) := by
  refine Met.ofW (cc := cX5_island) (maxL := 4) (ret := (some .int)) (by decide) rfl ?_
  intro p e s m args below meth c s₁ B hml hv
  obtain ⟨hav, hsz, hP, hKK⟩ := hv
  have hx := B.exec
  have hb := B.bytes
  have hr := B.returns
  have hts := atoms_spec (ws := wsX5_island) B.pre
  have hown : s.vm.findClass RX5 = some m.cls := findClass_of_methodNamed B.named
  have hlocks := B.notSynchronized
  have CF : CallFix p m c cX5_island 4 s args wsX5_island RX5 := ⟨hx, hb, hml, hown, hts⟩
  have hz : zz (dC, dI) 30 a (wdC cI cZ a σ) s.heap s.heap [] := ⟨hP, va_S.rf⟩
  have hl := lv_entry [.ref (a 0), .int x1, .int x2] (n := 4) (Nat.le_of_ble_eq_true rfl)
  have hen : entryFrame m args 4 = entryFrame m ([.ref (a 0), .int x1, .int x2] : List Value).toArray 4 := by rw [hav]
  rw [hen, lg_entry_eq]
  generalize (lg_sl [.ref (a 0), .int x1, .int x2] ++ List.replicate (4 - (lg_sl [.ref (a 0), .int x1, .int x2]).length) Slot.unset).toArray = ls at hl ⊢
  have hl : lv_has ls 4 [(0, .ref (a 0)), (1, .int x1), (2, .int x2)] := hl
  have eR : (headSpec wsX5_island rmX5_island).room = rmX5_island := rfl
  rw [eR]
  have rt : ∀ (v : Int32) (t : St) (pc : Nat) (H : Heap) (locs : List Loc) (ls : Array Slot), decode cX5_island pc = .ok (.ireturn, 1) → some v = some r → zz (dC, dI) 30 a (wdC cI cZ a σ) s.heap H locs → W p l e rmX5_island s m args below meth c H locs 0 0 (MQ below (Qzi (dC, dI) 30 a (wdC cI cZ a σ) sz r) args s 0 0 (aN 30 a sz)) (F0 m pc ls [.int v]) := by
    intro v t pc H locs ls hd h hz
    cases h
    exact ziret hsz hx hb hr hlocks hz hd
  generalize (MQ below (Qzi (dC, dI) 30 a (wdC cI cZ a σ) sz r) args s 0 0 (aN 30 a sz)) = Q at rt ⊢
  unfold fX5_island at h
  refine lv_aload_n hx hb dX5_island_0 rfl (lv_at hl 0 rfl) ?_
  refine va_get (v := .ref (a 11)) hx hb hts inX5_island_X5 hown hKK.1 hz.1 0 rfl rfl 4 (by decide) (hts _ (List.mem_of_getElem? (i := 1) rfl)) (fun _ h9 => h9) rfl dX5_island_1 ?_
  refine va_getN (v := .ref (a 12)) hx hb hts inX5_island_X2 hown hKK.1 hz.1 11 rfl rfl 2 (by decide) (va_Nw.use rfl hKK.2.2.2.2.2.2.1) (fun _ h9 => h9) rfl dX5_island_4 ?_
  refine lv_astore_n (lv' := [(3, .ref (a 12)), (0, .ref (a 0)), (1, .int x1), (2, .int x2)]) hx hb dX5_island_7 rfl hl (by decide) rfl (fun ls hl => ?_)
  refine lv_aload_n hx hb dX5_island_8 rfl (lv_at hl 0 rfl) ?_
  refine lv_iload_n hx hb dX5_island_9 rfl (lv_at hl 2 rfl) ?_
  obtain ⟨r1, e3, h⟩ := bd1_e h
  refine zcallVi (As := [.int x1]) (rest := []) CF hKK (KX4_has_i (dC := dC) (dI := dI) (cI := cI) (cZ := cZ) (a := a) hok e3) (cwV 1 hts gX5_island_X4_has rfl rfl rfl cdX4_has ⟨Nat.le_of_ble_eq_true rfl, Nat.le_of_ble_eq_true rfl⟩) 12 4 rfl rfl hz rfl hl.1 rfl (Nat.le_of_ble_eq_true rfl) dX5_island_10 ⟨Nat.le_refl _, Nat.le_refl _⟩ (fun H locs hz => ?_)
  refine lv_if_ne (tgt := 20) hx hb dX5_island_13 (by decide) (fun c4 => ?_) (fun c4 => ?_)
  · replace h := ite_f c4 h
    refine lv_iload_n hx hb dX5_island_20 rfl (lv_at hl 3 rfl) ?_
    by_cases c5 : x2 = (0 : Int32)
    · replace h := ite_t c5 h
      refine lv_tableIn (tgt := 52) (off := 31) hx hb dX5_island_21 (by rw [c5]; decide) (by rw [c5]; decide) (by rw [c5]; rfl) (by decide) ?_
      refine lv_aload_n hx hb dX5_island_52 rfl (lv_at hl 0 rfl) ?_
      refine lv_iload_n hx hb dX5_island_53 rfl (lv_at hl 2 rfl) ?_
      obtain ⟨r6, e8, h⟩ := bd1_e h
      refine zcallVi (As := [.int x1]) (rest := []) CF hKK (KX4_nameOf_i (dC := dC) (dI := dI) (cI := cI) (cZ := cZ) (a := a) hok e8) (cwV 1 hts gX5_island_X4_nameOf rfl rfl rfl cdX4_nameOf ⟨Nat.le_of_ble_eq_true rfl, Nat.le_of_ble_eq_true rfl⟩) 12 4 rfl rfl hz rfl hl.1 rfl (Nat.le_of_ble_eq_true rfl) dX5_island_54 ⟨Nat.le_refl _, Nat.le_refl _⟩ (fun H locs hz => ?_)
      exact rt r6 σ 57 _ _ _ dX5_island_57 h hz
    replace h := ite_f c5 h
    by_cases c9 : x2 = (1 : Int32)
    · replace h := ite_t c9 h
      refine lv_tableIn (tgt := 58) (off := 37) hx hb dX5_island_21 (by rw [c9]; decide) (by rw [c9]; decide) (by rw [c9]; rfl) (by decide) ?_
      refine lv_aload_n hx hb dX5_island_58 rfl (lv_at hl 0 rfl) ?_
      refine lv_iload_n hx hb dX5_island_59 rfl (lv_at hl 2 rfl) ?_
      obtain ⟨r10, e12, h⟩ := bd1_e h
      refine zcallVi (As := [.int x1]) (rest := []) CF hKK (KX4_returnOf_i (dC := dC) (dI := dI) (cI := cI) (cZ := cZ) (a := a) hok e12) (cwV 1 hts gX5_island_X4_returnOf rfl rfl rfl cdX4_returnOf ⟨Nat.le_of_ble_eq_true rfl, Nat.le_of_ble_eq_true rfl⟩) 12 4 rfl rfl hz rfl hl.1 rfl (Nat.le_of_ble_eq_true rfl) dX5_island_60 ⟨Nat.le_refl _, Nat.le_refl _⟩ (fun H locs hz => ?_)
      exact rt r10 σ 63 _ _ _ dX5_island_63 h hz
    replace h := ite_f c9 h
    by_cases c13 : x2 = (2 : Int32)
    · replace h := ite_t c13 h
      refine lv_tableIn (tgt := 64) (off := 43) hx hb dX5_island_21 (by rw [c13]; decide) (by rw [c13]; decide) (by rw [c13]; rfl) (by decide) ?_
      refine lv_aload_n hx hb dX5_island_64 rfl (lv_at hl 0 rfl) ?_
      refine lv_iload_n hx hb dX5_island_65 rfl (lv_at hl 2 rfl) ?_
      obtain ⟨r14, e16, h⟩ := bd1_e h
      refine zcallVi (As := [.int x1]) (rest := []) CF hKK (KX4_addressOf_i (dC := dC) (dI := dI) (cI := cI) (cZ := cZ) (a := a) hok e16) (cwV 1 hts gX5_island_X4_addressOf rfl rfl rfl cdX4_addressOf ⟨Nat.le_of_ble_eq_true rfl, Nat.le_of_ble_eq_true rfl⟩) 12 4 rfl rfl hz rfl hl.1 rfl (Nat.le_of_ble_eq_true rfl) dX5_island_66 ⟨Nat.le_refl _, Nat.le_refl _⟩ (fun H locs hz => ?_)
      exact rt r14 σ 69 _ _ _ dX5_island_69 h hz
    replace h := ite_f c13 h
    by_cases c17 : x2 = (3 : Int32)
    · replace h := ite_t c17 h
      refine lv_tableIn (tgt := 70) (off := 49) hx hb dX5_island_21 (by rw [c17]; decide) (by rw [c17]; decide) (by rw [c17]; rfl) (by decide) ?_
      refine lv_aload_n hx hb dX5_island_70 rfl (lv_at hl 1 rfl) ?_
      refine va_get (v := .ref (a 11)) hx hb hts inX5_island_X5 hown hKK.1 hz.1 0 rfl rfl 4 (by decide) (hts _ (List.mem_of_getElem? (i := 1) rfl)) (fun _ h9 => h9) rfl dX5_island_71 ?_
      refine lv_iload_n hx hb dX5_island_74 rfl (lv_at hl 2 rfl) ?_
      obtain ⟨r18, e20, h⟩ := bd1_e h
      refine zcallVi (As := [.int x1]) (rest := []) CF hKK (KX2_islandAimOf (dC := dC) (dI := dI) (cI := cI) (cZ := cZ) (a := a) hok e20) (cwV 1 hts gX5_island_X2_islandAimOf rfl rfl rfl cdX2_islandAimOf ⟨Nat.le_of_ble_eq_true rfl, Nat.le_of_ble_eq_true rfl⟩) 11 2 rfl rfl hz rfl hl.1 rfl (Nat.le_of_ble_eq_true rfl) dX5_island_75 ⟨Nat.le_refl _, Nat.le_refl _⟩ (fun H locs hz => ?_)
      exact rt r18 σ 78 _ _ _ dX5_island_78 h hz
    replace h := ite_f c17 h
    refine lv_tableOut (tgt := 79) hx hb dX5_island_21 (by have := lv_neT c5 (a := 0) rfl; have := lv_neT c9 (a := 1) rfl; have := lv_neT c13 (a := 2) rfl; have := lv_neT c17 (a := 3) rfl; omega) (by decide) ?_
    refine lv_sipush (v := (-1002 : Int32)) hx hb dX5_island_79 (by decide) ?_
    exact rt (-1002 : Int32) σ 82 _ _ _ dX5_island_82 h hz
  · replace h := ite_t c4 h
    refine lv_sipush (v := (-1001 : Int32)) hx hb dX5_island_16 (by decide) ?_
    exact rt (-1001 : Int32) σ 19 _ _ _ dX5_island_19 h hz
