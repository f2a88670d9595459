def fX2_addressOf (σ : St) (x1 : Int32) : Option (Int32) :=
  (if x1 < 0 then (some (-1 : Int32)) else ((if (24 : Int32) ≤ x1 then (some (-1 : Int32)) else ((ck (¬ (x1 < 0 ∨ 24 ≤ Int32.toNatClampNeg x1)) <| some ((σ 25) (Int32.toNatClampNeg x1)))))))
abbrev rmX2_addressOf : Room := { frames := 0, cells := 0, slots := 0, locals := 0 }
set_option maxHeartbeats 4000000 in
set_option maxRecDepth 100000 in
theorem KX2_addressOf {l : Launch} {dC : Nat → ClassId} {dI : Nat → Nat → Nat} {cI cZ : ClassId} {a : Nat → Nat} {σ : St} {x1 : Int32} {r : Int32} (hok : okA 30 a) (h : fX2_addressOf σ x1 = some r) (sz : Nat) : Met l yX2_addressOf wsX2_addressOf rmX2_addressOf (Pz (dC, dI) cI cZ (wdC cI cZ a σ) sz [.ref (a 11), .int x1]) (Qzi (dC, dI) 30 a (wdC cI cZ a σ) sz r) 0 0 (aN 30 a sz) := by
  refine Met.ofW (cc := cX2_addressOf) (maxL := 2) (ret := (some .int)) (by decide) rfl ?_
  intro p e s m args below meth c s₁ B hml hv
  obtain ⟨hav, hsz, hP, hKK⟩ := hv
  have hx := B.exec
  have hb := B.bytes
  have hr := B.returns
  have hts := atoms_spec (ws := wsX2_addressOf) B.pre
  have hown : s.vm.findClass RX2 = some m.cls := findClass_of_methodNamed B.named
  have hlocks := B.notSynchronized
  have CF : CallFix p m c cX2_addressOf 2 s args wsX2_addressOf RX2 := ⟨hx, hb, hml, hown, hts⟩
  have hz : zz (dC, dI) 30 a (wdC cI cZ a σ) s.heap s.heap [] := ⟨hP, va_S.rf⟩
  have hl := lv_entry [.ref (a 11), .int x1] (n := 2) (Nat.le_of_ble_eq_true rfl)
  have hen : entryFrame m args 2 = entryFrame m ([.ref (a 11), .int x1] : List Value).toArray 2 := by rw [hav]
  rw [hen, lg_entry_eq]
  generalize (lg_sl [.ref (a 11), .int x1] ++ List.replicate (2 - (lg_sl [.ref (a 11), .int x1]).length) Slot.unset).toArray = ls at hl ⊢
  have hl : lv_has ls 2 [(0, .ref (a 11)), (1, .int x1)] := hl
  have eR : (headSpec wsX2_addressOf rmX2_addressOf).room = rmX2_addressOf := rfl
  rw [eR]
  have rt : ∀ (v : Int32) (t : St) (pc : Nat) (H : Heap) (locs : List Loc) (ls : Array Slot), decode cX2_addressOf pc = .ok (.ireturn, 1) → some v = some r → zz (dC, dI) 30 a (wdC cI cZ a σ) s.heap H locs → W p l e rmX2_addressOf s m args below meth c H locs 0 0 (MQ below (Qzi (dC, dI) 30 a (wdC cI cZ a σ) sz r) args s 0 0 (aN 30 a sz)) (F0 m pc ls [.int v]) := by
    intro v t pc H locs ls hd h hz
    cases h
    exact ziret hsz hx hb hr hlocks hz hd
  generalize (MQ below (Qzi (dC, dI) 30 a (wdC cI cZ a σ) sz r) args s 0 0 (aN 30 a sz)) = Q at rt ⊢
  unfold fX2_addressOf at h
  refine lv_iload_n hx hb dX2_addressOf_0 rfl (lv_at hl 1 rfl) ?_
  refine lv_if_lt (tgt := 22) hx hb dX2_addressOf_1 (by decide) (fun c1 => ?_) (fun c1 => ?_)
  · replace h := ite_t c1 h
    refine lv_iconst (v := (-1 : Int32)) hx hb dX2_addressOf_22 (by decide) ?_
    exact rt (-1 : Int32) σ 23 _ _ _ dX2_addressOf_23 h hz
  · replace h := ite_f c1 h
    refine lv_iload_n hx hb dX2_addressOf_4 rfl (lv_at hl 1 rfl) ?_
    refine lv_aload_n hx hb dX2_addressOf_5 rfl (lv_at hl 0 rfl) ?_
    refine va_get (v := .ref (a 25)) hx hb hts inX2_addressOf_X2 hown hKK.1 hz.1 11 rfl rfl 5 (by decide) (hts _ (List.mem_of_getElem? (i := 1) rfl)) (fun _ h9 => h9) rfl dX2_addressOf_6 ?_
    refine va_alen (v := (24 : Int32)) hx hb hKK.1 hz.1 25 0 rfl rfl rfl dX2_addressOf_9 ?_
    refine lv_icmp_ge (tgt := 22) hx hb dX2_addressOf_10 (by decide) (fun c2 => ?_) (fun c2 => ?_)
    · replace h := ite_t c2 h
      refine lv_iconst (v := (-1 : Int32)) hx hb dX2_addressOf_22 (by decide) ?_
      exact rt (-1 : Int32) σ 23 _ _ _ dX2_addressOf_23 h hz
    · replace h := ite_f c2 h
      refine lv_aload_n hx hb dX2_addressOf_13 rfl (lv_at hl 0 rfl) ?_
      refine va_get (v := .ref (a 25)) hx hb hts inX2_addressOf_X2 hown hKK.1 hz.1 11 rfl rfl 5 (by decide) (hts _ (List.mem_of_getElem? (i := 1) rfl)) (fun _ h9 => h9) rfl dX2_addressOf_14 ?_
      refine lv_iload_n hx hb dX2_addressOf_17 rfl (lv_at hl 1 rfl) ?_
      obtain ⟨c3, h⟩ := ck_e h
      refine va_iald (f := (σ 25)) hx hb hKK.1 hz.1 25 0 rfl rfl c3 dX2_addressOf_18 ?_
      refine lv_goto (tgt := 23) hx hb dX2_addressOf_19 (by decide) ?_
      exact rt ((σ 25) (Int32.toNatClampNeg x1)) σ 23 _ _ _ dX2_addressOf_23 h hz
def fX4_size_i (σ : St)  : Option (Int32) :=
  some (σ 56 0)
abbrev rmX4_size_i : Room := { frames := 0, cells := 0, slots := 0, locals := 0 }
set_option maxHeartbeats 4000000 in
set_option maxRecDepth 100000 in
theorem KX4_size_i {l : Launch} {dC : Nat → ClassId} {dI : Nat → Nat → Nat} {cI cZ : ClassId} {a : Nat → Nat} {σ : St}  {r : Int32} (hok : okA 30 a) (h : fX4_size_i σ  = some r) (sz : Nat) : Met l yX4_size wsX4_size rmX4_size_i (Pz (dC, dI) cI cZ (wdC cI cZ a σ) sz [.ref (a 12)]) (Qzi (dC, dI) 30 a (wdC cI cZ a σ) sz r) 0 0 (aN 30 a sz) := by
  refine Met.ofW (cc := cX4_size) (maxL := 1) (ret := (some .int)) (by decide) rfl ?_
  intro p e s m args below meth c s₁ B hml hv
  obtain ⟨hav, hsz, hP, hKK⟩ := hv
  have hx := B.exec
  have hb := B.bytes
  have hr := B.returns
  have hts := atoms_spec (ws := wsX4_size) B.pre
  have hown : s.vm.findClass RX4 = some m.cls := findClass_of_methodNamed B.named
  have hlocks := B.notSynchronized
  have CF : CallFix p m c cX4_size 1 s args wsX4_size RX4 := ⟨hx, hb, hml, hown, hts⟩
  have hz : zz (dC, dI) 30 a (wdC cI cZ a σ) s.heap s.heap [] := ⟨hP, va_S.rf⟩
  have hl := lv_entry [.ref (a 12)] (n := 1) (Nat.le_of_ble_eq_true rfl)
  have hen : entryFrame m args 1 = entryFrame m ([.ref (a 12)] : List Value).toArray 1 := by rw [hav]
  rw [hen, lg_entry_eq]
  generalize (lg_sl [.ref (a 12)] ++ List.replicate (1 - (lg_sl [.ref (a 12)]).length) Slot.unset).toArray = ls at hl ⊢
  have hl : lv_has ls 1 [(0, .ref (a 12))] := hl
  have eR : (headSpec wsX4_size rmX4_size_i).room = rmX4_size_i := rfl
  rw [eR]
  have rt : ∀ (v : Int32) (t : St) (pc : Nat) (H : Heap) (locs : List Loc) (ls : Array Slot), decode cX4_size pc = .ok (.ireturn, 1) → some v = some r → zz (dC, dI) 30 a (wdC cI cZ a σ) s.heap H locs → W p l e rmX4_size_i s m args below meth c H locs 0 0 (MQ below (Qzi (dC, dI) 30 a (wdC cI cZ a σ) sz r) args s 0 0 (aN 30 a sz)) (F0 m pc ls [.int v]) := by
    intro v t pc H locs ls hd h hz
    cases h
    exact ziret hsz hx hb hr hlocks hz hd
  generalize (MQ below (Qzi (dC, dI) 30 a (wdC cI cZ a σ) sz r) args s 0 0 (aN 30 a sz)) = Q at rt ⊢
  unfold fX4_size_i at h
  refine lv_aload_n hx hb dX4_size_0 rfl (lv_at hl 0 rfl) ?_
  refine va_get (v := .int (σ 56 0)) hx hb hts inX4_size_X4 hown hKK.1 hz.1 12 rfl rfl 5 (by decide) (hts _ (List.mem_of_getElem? (i := 1) rfl)) (fun _ h9 => h9) rfl dX4_size_1 ?_
  exact rt (σ 56 0) σ 4 _ _ _ dX4_size_4 h hz
def fX4_size_c (σ : St)  : Option (Int32) :=
  some (σ 57 0)
abbrev rmX4_size_c : Room := { frames := 0, cells := 0, slots := 0, locals := 0 }
set_option maxHeartbeats 4000000 in
set_option maxRecDepth 100000 in
theorem KX4_size_c {l : Launch} {dC : Nat → ClassId} {dI : Nat → Nat → Nat} {cI cZ : ClassId} {a : Nat → Nat} {σ : St}  {r : Int32} (hok : okA 30 a) (h : fX4_size_c σ  = some r) (sz : Nat) : Met l yX4_size wsX4_size rmX4_size_c (Pz (dC, dI) cI cZ (wdC cI cZ a σ) sz [.ref (a 18)]) (Qzi (dC, dI) 30 a (wdC cI cZ a σ) sz r) 0 0 (aN 30 a sz) := by
  refine Met.ofW (cc := cX4_size) (maxL := 1) (ret := (some .int)) (by decide) rfl ?_
  intro p e s m args below meth c s₁ B hml hv
  obtain ⟨hav, hsz, hP, hKK⟩ := hv
  have hx := B.exec
  have hb := B.bytes
  have hr := B.returns
  have hts := atoms_spec (ws := wsX4_size) B.pre
  have hown : s.vm.findClass RX4 = some m.cls := findClass_of_methodNamed B.named
  have hlocks := B.notSynchronized
  have CF : CallFix p m c cX4_size 1 s args wsX4_size RX4 := ⟨hx, hb, hml, hown, hts⟩
  have hz : zz (dC, dI) 30 a (wdC cI cZ a σ) s.heap s.heap [] := ⟨hP, va_S.rf⟩
  have hl := lv_entry [.ref (a 18)] (n := 1) (Nat.le_of_ble_eq_true rfl)
  have hen : entryFrame m args 1 = entryFrame m ([.ref (a 18)] : List Value).toArray 1 := by rw [hav]
  rw [hen, lg_entry_eq]
  generalize (lg_sl [.ref (a 18)] ++ List.replicate (1 - (lg_sl [.ref (a 18)]).length) Slot.unset).toArray = ls at hl ⊢
  have hl : lv_has ls 1 [(0, .ref (a 18))] := hl
  have eR : (headSpec wsX4_size rmX4_size_c).room = rmX4_size_c := rfl
  rw [eR]
  have rt : ∀ (v : Int32) (t : St) (pc : Nat) (H : Heap) (locs : List Loc) (ls : Array Slot), decode cX4_size pc = .ok (.ireturn, 1) → some v = some r → zz (dC, dI) 30 a (wdC cI cZ a σ) s.heap H locs → W p l e rmX4_size_c s m args below meth c H locs 0 0 (MQ below (Qzi (dC, dI) 30 a (wdC cI cZ a σ) sz r) args s 0 0 (aN 30 a sz)) (F0 m pc ls [.int v]) := by
    intro v t pc H locs ls hd h hz
    cases h
    exact ziret hsz hx hb hr hlocks hz hd
  generalize (MQ below (Qzi (dC, dI) 30 a (wdC cI cZ a σ) sz r) args s 0 0 (aN 30 a sz)) = Q at rt ⊢
  unfold fX4_size_c at h
  refine lv_aload_n hx hb dX4_size_0 rfl (lv_at hl 0 rfl) ?_
  refine va_get (v := .int (σ 57 0)) hx hb hts inX4_size_X4 hown hKK.1 hz.1 18 rfl rfl 5 (by decide) (hts _ (List.mem_of_getElem? (i := 1) rfl)) (fun _ h9 => h9) rfl dX4_size_1 ?_
  exact rt (σ 57 0) σ 4 _ _ _ dX4_size_4 h hz
def fX4_has_i (σ : St) (x1 : Int32) : Option (Int32) :=
  (if x1 < 0 then (some (0 : Int32)) else ((if (σ 56 0) ≤ x1 then (some (0 : Int32)) else ((if (12 : Int32) ≤ x1 then (some (0 : Int32)) else (some (1 : Int32)))))))
abbrev rmX4_has_i : Room := { frames := 0, cells := 0, slots := 0, locals := 0 }
set_option maxHeartbeats 4000000 in
set_option maxRecDepth 100000 in
theorem KX4_has_i {l : Launch} {dC : Nat → ClassId} {dI : Nat → Nat → Nat} {cI cZ : ClassId} {a : Nat → Nat} {σ : St} {x1 : Int32} {r : Int32} (hok : okA 30 a) (h : fX4_has_i σ x1 = some r) (sz : Nat) : Met l yX4_has wsX4_has rmX4_has_i (Pz (dC, dI) cI cZ (wdC cI cZ a σ) sz [.ref (a 12), .int x1]) (Qzi (dC, dI) 30 a (wdC cI cZ a σ) sz r) 0 0 (aN 30 a sz) := by
  refine Met.ofW (cc := cX4_has) (maxL := 2) (ret := (some .boolean)) (by decide) rfl ?_
  intro p e s m args below meth c s₁ B hml hv
  obtain ⟨hav, hsz, hP, hKK⟩ := hv
  have hx := B.exec
  have hb := B.bytes
  have hr := B.returns
  have hts := atoms_spec (ws := wsX4_has) B.pre
  have hown : s.vm.findClass RX4 = some m.cls := findClass_of_methodNamed B.named
  have hlocks := B.notSynchronized
  have CF : CallFix p m c cX4_has 2 s args wsX4_has RX4 := ⟨hx, hb, hml, hown, hts⟩
  have hz : zz (dC, dI) 30 a (wdC cI cZ a σ) s.heap s.heap [] := ⟨hP, va_S.rf⟩
  have hl := lv_entry [.ref (a 12), .int x1] (n := 2) (Nat.le_of_ble_eq_true rfl)
  have hen : entryFrame m args 2 = entryFrame m ([.ref (a 12), .int x1] : List Value).toArray 2 := by rw [hav]
  rw [hen, lg_entry_eq]
  generalize (lg_sl [.ref (a 12), .int x1] ++ List.replicate (2 - (lg_sl [.ref (a 12), .int x1]).length) Slot.unset).toArray = ls at hl ⊢
  have hl : lv_has ls 2 [(0, .ref (a 12)), (1, .int x1)] := hl
  have eR : (headSpec wsX4_has rmX4_has_i).room = rmX4_has_i := rfl
  rw [eR]
  have rt : ∀ (v : Int32) (t : St) (pc : Nat) (H : Heap) (locs : List Loc) (ls : Array Slot), decode cX4_has pc = .ok (.ireturn, 1) → some v = some r → zz (dC, dI) 30 a (wdC cI cZ a σ) s.heap H locs → (v = 0 ∨ v = 1) → W p l e rmX4_has_i s m args below meth c H locs 0 0 (MQ below (Qzi (dC, dI) 30 a (wdC cI cZ a σ) sz r) args s 0 0 (aN 30 a sz)) (F0 m pc ls [.int v]) := by
    intro v t pc H locs ls hd h hz hv
    cases h
    exact zzret hsz hx hb hr hlocks hv hz hd
  generalize (MQ below (Qzi (dC, dI) 30 a (wdC cI cZ a σ) sz r) args s 0 0 (aN 30 a sz)) = Q at rt ⊢
  unfold fX4_has_i at h
  refine lv_iload_n hx hb dX4_has_0 rfl (lv_at hl 1 rfl) ?_
  refine lv_if_lt (tgt := 25) hx hb dX4_has_1 (by decide) (fun c1 => ?_) (fun c1 => ?_)
  · replace h := ite_t c1 h
    refine lv_iconst (v := (0 : Int32)) hx hb dX4_has_25 (by decide) ?_
    exact rt (0 : Int32) σ 26 _ _ _ dX4_has_26 h hz (Or.inl rfl)
  · replace h := ite_f c1 h
    refine lv_iload_n hx hb dX4_has_4 rfl (lv_at hl 1 rfl) ?_
    refine lv_aload_n hx hb dX4_has_5 rfl (lv_at hl 0 rfl) ?_
    refine va_get (v := .int (σ 56 0)) hx hb hts inX4_has_X4 hown hKK.1 hz.1 12 rfl rfl 5 (by decide) (hts _ (List.mem_of_getElem? (i := 1) rfl)) (fun _ h9 => h9) rfl dX4_has_6 ?_
    refine lv_icmp_ge (tgt := 25) hx hb dX4_has_9 (by decide) (fun c2 => ?_) (fun c2 => ?_)
    · replace h := ite_t c2 h
      refine lv_iconst (v := (0 : Int32)) hx hb dX4_has_25 (by decide) ?_
      exact rt (0 : Int32) σ 26 _ _ _ dX4_has_26 h hz (Or.inl rfl)
    · replace h := ite_f c2 h
      refine lv_iload_n hx hb dX4_has_12 rfl (lv_at hl 1 rfl) ?_
      refine lv_aload_n hx hb dX4_has_13 rfl (lv_at hl 0 rfl) ?_
      refine va_get (v := .ref (a 13)) hx hb hts inX4_has_X4 hown hKK.1 hz.1 12 rfl rfl 0 (by decide) (hts _ (List.mem_of_getElem? (i := 2) rfl)) (fun _ h9 => h9) rfl dX4_has_14 ?_
      refine va_alen (v := (12 : Int32)) hx hb hKK.1 hz.1 13 0 rfl rfl rfl dX4_has_17 ?_
      refine lv_icmp_ge (tgt := 25) hx hb dX4_has_18 (by decide) (fun c3 => ?_) (fun c3 => ?_)
      · replace h := ite_t c3 h
        refine lv_iconst (v := (0 : Int32)) hx hb dX4_has_25 (by decide) ?_
        exact rt (0 : Int32) σ 26 _ _ _ dX4_has_26 h hz (Or.inl rfl)
      · replace h := ite_f c3 h
        refine lv_iconst (v := (1 : Int32)) hx hb dX4_has_21 (by decide) ?_
        refine lv_goto (tgt := 26) hx hb dX4_has_22 (by decide) ?_
        exact rt (1 : Int32) σ 26 _ _ _ dX4_has_26 h hz (Or.inr rfl)
def fX4_has_c (σ : St) (x1 : Int32) : Option (Int32) :=
  (if x1 < 0 then (some (0 : Int32)) else ((if (σ 57 0) ≤ x1 then (some (0 : Int32)) else ((if (16 : Int32) ≤ x1 then (some (0 : Int32)) else (some (1 : Int32)))))))
abbrev rmX4_has_c : Room := { frames := 0, cells := 0, slots := 0, locals := 0 }
set_option maxHeartbeats 4000000 in
set_option maxRecDepth 100000 in
theorem KX4_has_c {l : Launch} {dC : Nat → ClassId} {dI : Nat → Nat → Nat} {cI cZ : ClassId} {a : Nat → Nat} {σ : St} {x1 : Int32} {r : Int32} (hok : okA 30 a) (h : fX4_has_c σ x1 = some r) (sz : Nat) : Met l yX4_has wsX4_has rmX4_has_c (Pz (dC, dI) cI cZ (wdC cI cZ a σ) sz [.ref (a 18), .int x1]) (Qzi (dC, dI) 30 a (wdC cI cZ a σ) sz r) 0 0 (aN 30 a sz) := by
  refine Met.ofW (cc := cX4_has) (maxL := 2) (ret := (some .boolean)) (by decide) rfl ?_
  intro p e s m args below meth c s₁ B hml hv
  obtain ⟨hav, hsz, hP, hKK⟩ := hv
  have hx := B.exec
  have hb := B.bytes
  have hr := B.returns
  have hts := atoms_spec (ws := wsX4_has) B.pre
  have hown : s.vm.findClass RX4 = some m.cls := findClass_of_methodNamed B.named
  have hlocks := B.notSynchronized
  have CF : CallFix p m c cX4_has 2 s args wsX4_has RX4 := ⟨hx, hb, hml, hown, hts⟩
  have hz : zz (dC, dI) 30 a (wdC cI cZ a σ) s.heap s.heap [] := ⟨hP, va_S.rf⟩
  have hl := lv_entry [.ref (a 18), .int x1] (n := 2) (Nat.le_of_ble_eq_true rfl)
  have hen : entryFrame m args 2 = entryFrame m ([.ref (a 18), .int x1] : List Value).toArray 2 := by rw [hav]
  rw [hen, lg_entry_eq]
  generalize (lg_sl [.ref (a 18), .int x1] ++ List.replicate (2 - (lg_sl [.ref (a 18), .int x1]).length) Slot.unset).toArray = ls at hl ⊢
  have hl : lv_has ls 2 [(0, .ref (a 18)), (1, .int x1)] := hl
  have eR : (headSpec wsX4_has rmX4_has_c).room = rmX4_has_c := rfl
  rw [eR]
  have rt : ∀ (v : Int32) (t : St) (pc : Nat) (H : Heap) (locs : List Loc) (ls : Array Slot), decode cX4_has pc = .ok (.ireturn, 1) → some v = some r → zz (dC, dI) 30 a (wdC cI cZ a σ) s.heap H locs → (v = 0 ∨ v = 1) → W p l e rmX4_has_c s m args below meth c H locs 0 0 (MQ below (Qzi (dC, dI) 30 a (wdC cI cZ a σ) sz r) args s 0 0 (aN 30 a sz)) (F0 m pc ls [.int v]) := by
    intro v t pc H locs ls hd h hz hv
    cases h
    exact zzret hsz hx hb hr hlocks hv hz hd
  generalize (MQ below (Qzi (dC, dI) 30 a (wdC cI cZ a σ) sz r) args s 0 0 (aN 30 a sz)) = Q at rt ⊢
  unfold fX4_has_c at h
  refine lv_iload_n hx hb dX4_has_0 rfl (lv_at hl 1 rfl) ?_
  refine lv_if_lt (tgt := 25) hx hb dX4_has_1 (by decide) (fun c1 => ?_) (fun c1 => ?_)
  · replace h := ite_t c1 h
    refine lv_iconst (v := (0 : Int32)) hx hb dX4_has_25 (by decide) ?_
    exact rt (0 : Int32) σ 26 _ _ _ dX4_has_26 h hz (Or.inl rfl)
  · replace h := ite_f c1 h
    refine lv_iload_n hx hb dX4_has_4 rfl (lv_at hl 1 rfl) ?_
    refine lv_aload_n hx hb dX4_has_5 rfl (lv_at hl 0 rfl) ?_
    refine va_get (v := .int (σ 57 0)) hx hb hts inX4_has_X4 hown hKK.1 hz.1 18 rfl rfl 5 (by decide) (hts _ (List.mem_of_getElem? (i := 1) rfl)) (fun _ h9 => h9) rfl dX4_has_6 ?_
    refine lv_icmp_ge (tgt := 25) hx hb dX4_has_9 (by decide) (fun c2 => ?_) (fun c2 => ?_)
    · replace h := ite_t c2 h
      refine lv_iconst (v := (0 : Int32)) hx hb dX4_has_25 (by decide) ?_
      exact rt (0 : Int32) σ 26 _ _ _ dX4_has_26 h hz (Or.inl rfl)
    · replace h := ite_f c2 h
      refine lv_iload_n hx hb dX4_has_12 rfl (lv_at hl 1 rfl) ?_
      refine lv_aload_n hx hb dX4_has_13 rfl (lv_at hl 0 rfl) ?_
      refine va_get (v := .ref (a 19)) hx hb hts inX4_has_X4 hown hKK.1 hz.1 18 rfl rfl 0 (by decide) (hts _ (List.mem_of_getElem? (i := 2) rfl)) (fun _ h9 => h9) rfl dX4_has_14 ?_
      refine va_alen (v := (16 : Int32)) hx hb hKK.1 hz.1 19 0 rfl rfl rfl dX4_has_17 ?_
      refine lv_icmp_ge (tgt := 25) hx hb dX4_has_18 (by decide) (fun c3 => ?_) (fun c3 => ?_)
      · replace h := ite_t c3 h
        refine lv_iconst (v := (0 : Int32)) hx hb dX4_has_25 (by decide) ?_
        exact rt (0 : Int32) σ 26 _ _ _ dX4_has_26 h hz (Or.inl rfl)
      · replace h := ite_f c3 h
        refine lv_iconst (v := (1 : Int32)) hx hb dX4_has_21 (by decide) ?_
        refine lv_goto (tgt := 26) hx hb dX4_has_22 (by decide) ?_
        exact rt (1 : Int32) σ 26 _ _ _ dX4_has_26 h hz (Or.inr rfl)
def fX4_addressOf_i (σ : St) (x1 : Int32) : Option (Int32) :=
  (bd1 (fX4_has_i σ x1) fun r1 => (if r1 = 0 then (some (-1 : Int32)) else ((ck (¬ (x1 < 0 ∨ 12 ≤ Int32.toNatClampNeg x1)) <| (bd1 (fX4_isItem σ ((σ 14) (Int32.toNatClampNeg x1))) fun r6 => (if r6 = 0 then (some (-1 : Int32)) else ((ck (¬ (((σ 14) (Int32.toNatClampNeg x1)) < 0 ∨ 24 ≤ Int32.toNatClampNeg ((σ 14) (Int32.toNatClampNeg x1)))) <| (ck (¬ (x1 < 0 ∨ 12 ≤ Int32.toNatClampNeg x1)) <| some (((σ 17) (Int32.toNatClampNeg ((σ 14) (Int32.toNatClampNeg x1)))) + ((4 : Int32) * ((σ 15) (Int32.toNatClampNeg x1)))))))))))))
abbrev rmX4_addressOf_i : Room := { frames := 1, cells := 0, slots := 0, locals := 21 }
set_option maxHeartbeats 4000000 in
set_option maxRecDepth 100000 in
theorem KX4_addressOf_i {l : Launch} {dC : Nat → ClassId} {dI : Nat → Nat → Nat} {cI cZ : ClassId} {a : Nat → Nat} {σ : St} {x1 : Int32} {r : Int32} (hok : okA 30 a) (h : fX4_addressOf_i σ x1 = some r) (sz : Nat) : Met l yX4_addressOf wsX4_addressOf rmX4_addressOf_i (Pz (dC, dI) cI cZ (wdC cI cZ a σ) sz [.ref (a 12), .int x1]) (Qzi (dC, dI) 30 a (wdC cI cZ a σ) sz r) 0 0 (aN 30 a sz) := by
  refine Met.ofW (cc := cX4_addressOf) (maxL := 3) (ret := (some .int)) (by decide) rfl ?_
  intro p e s m args below meth c s₁ B hml hv
  obtain ⟨hav, hsz, hP, hKK⟩ := hv
  have hx := B.exec
  have hb := B.bytes
  have hr := B.returns
  have hts := atoms_spec (ws := wsX4_addressOf) B.pre
  have hown : s.vm.findClass RX4 = some m.cls := findClass_of_methodNamed B.named
  have hlocks := B.notSynchronized
  have CF : CallFix p m c cX4_addressOf 3 s args wsX4_addressOf RX4 := ⟨hx, hb, hml, hown, hts⟩
  have hz : zz (dC, dI) 30 a (wdC cI cZ a σ) s.heap s.heap [] := ⟨hP, va_S.rf⟩
  have hl := lv_entry [.ref (a 12), .int x1] (n := 3) (Nat.le_of_ble_eq_true rfl)
  have hen : entryFrame m args 3 = entryFrame m ([.ref (a 12), .int x1] : List Value).toArray 3 := by rw [hav]
  rw [hen, lg_entry_eq]
  generalize (lg_sl [.ref (a 12), .int x1] ++ List.replicate (3 - (lg_sl [.ref (a 12), .int x1]).length) Slot.unset).toArray = ls at hl ⊢
  have hl : lv_has ls 3 [(0, .ref (a 12)), (1, .int x1)] := hl
  have eR : (headSpec wsX4_addressOf rmX4_addressOf_i).room = rmX4_addressOf_i := rfl
  rw [eR]
  have rt : ∀ (v : Int32) (t : St) (pc : Nat) (H : Heap) (locs : List Loc) (ls : Array Slot), decode cX4_addressOf pc = .ok (.ireturn, 1) → some v = some r → zz (dC, dI) 30 a (wdC cI cZ a σ) s.heap H locs → W p l e rmX4_addressOf_i s m args below meth c H locs 0 0 (MQ below (Qzi (dC, dI) 30 a (wdC cI cZ a σ) sz r) args s 0 0 (aN 30 a sz)) (F0 m pc ls [.int v]) := by
    intro v t pc H locs ls hd h hz
    cases h
    exact ziret hsz hx hb hr hlocks hz hd
  generalize (MQ below (Qzi (dC, dI) 30 a (wdC cI cZ a σ) sz r) args s 0 0 (aN 30 a sz)) = Q at rt ⊢
  unfold fX4_addressOf_i at h
  refine lv_aload_n hx hb dX4_addressOf_0 rfl (lv_at hl 0 rfl) ?_
  refine lv_iload_n hx hb dX4_addressOf_1 rfl (lv_at hl 1 rfl) ?_
  obtain ⟨r1, e3, h⟩ := bd1_e h
  refine zcallVi (As := [.int x1]) (rest := []) CF hKK (KX4_has_i (dC := dC) (dI := dI) (cI := cI) (cZ := cZ) (a := a) hok e3) (cwV 1 hts gX4_addressOf_X4_has rfl rfl rfl cdX4_has ⟨Nat.le_of_ble_eq_true rfl, Nat.le_of_ble_eq_true rfl⟩) 12 4 rfl rfl hz rfl hl.1 rfl (Nat.le_of_ble_eq_true rfl) dX4_addressOf_2 ⟨Nat.le_refl _, Nat.le_refl _⟩ (fun H locs hz => ?_)
  refine lv_if_ne (tgt := 10) hx hb dX4_addressOf_5 (by decide) (fun c4 => ?_) (fun c4 => ?_)
  · replace h := ite_f c4 h
    refine lv_aload_n hx hb dX4_addressOf_10 rfl (lv_at hl 0 rfl) ?_
    refine va_get (v := .ref (a 14)) hx hb hts inX4_addressOf_X4 hown hKK.1 hz.1 12 rfl rfl 1 (by decide) (hts _ (List.mem_of_getElem? (i := 1) rfl)) (fun _ h9 => h9) rfl dX4_addressOf_11 ?_
    refine lv_iload_n hx hb dX4_addressOf_14 rfl (lv_at hl 1 rfl) ?_
    obtain ⟨c5, h⟩ := ck_e h
    refine va_iald (f := (σ 14)) hx hb hKK.1 hz.1 14 0 rfl rfl c5 dX4_addressOf_15 ?_
    refine lv_istore_n (lv' := [(2, .int ((σ 14) (Int32.toNatClampNeg x1))), (0, .ref (a 12)), (1, .int x1)]) hx hb dX4_addressOf_16 rfl hl (by decide) rfl (fun ls hl => ?_)
    refine lv_iload_n hx hb dX4_addressOf_17 rfl (lv_at hl 0 rfl) ?_
    obtain ⟨r6, e8, h⟩ := bd1_e h
    refine zcallSi (As := [.int ((σ 14) (Int32.toNatClampNeg x1))]) (rest := []) CF hKK (KX4_isItem (dC := dC) (dI := dI) (cI := cI) (cZ := cZ) (a := a) hok e8) (va_cwS 1 hts gX4_addressOf_X4_isItem rfl rfl rfl cdX4_isItem.2 ⟨Nat.le_of_ble_eq_true rfl, Nat.le_of_ble_eq_true rfl⟩) hz rfl hl.1 rfl (Nat.le_of_ble_eq_true rfl) dX4_addressOf_18 ⟨Nat.le_refl _, Nat.le_refl _⟩ (fun H locs hz => ?_)
    refine lv_if_eq (tgt := 42) hx hb dX4_addressOf_21 (by decide) (fun c9 => ?_) (fun c9 => ?_)
    · replace h := ite_t c9 h
      refine lv_iconst (v := (-1 : Int32)) hx hb dX4_addressOf_42 (by decide) ?_
      exact rt (-1 : Int32) σ 43 _ _ _ dX4_addressOf_43 h hz
    · replace h := ite_f c9 h
      refine lv_aload_n hx hb dX4_addressOf_24 rfl (lv_at hl 1 rfl) ?_
      refine va_get (v := .ref (a 17)) hx hb hts inX4_addressOf_X4 hown hKK.1 hz.1 12 rfl rfl 4 (by decide) (hts _ (List.mem_of_getElem? (i := 2) rfl)) (fun _ h9 => h9) rfl dX4_addressOf_25 ?_
      refine lv_iload_n hx hb dX4_addressOf_28 rfl (lv_at hl 0 rfl) ?_
      obtain ⟨c10, h⟩ := ck_e h
      refine va_iald (f := (σ 17)) hx hb hKK.1 hz.1 17 0 rfl rfl c10 dX4_addressOf_29 ?_
      refine lv_iconst (v := (4 : Int32)) hx hb dX4_addressOf_30 (by decide) ?_
      refine lv_aload_n hx hb dX4_addressOf_31 rfl (lv_at hl 1 rfl) ?_
      refine va_get (v := .ref (a 15)) hx hb hts inX4_addressOf_X4 hown hKK.1 hz.1 12 rfl rfl 2 (by decide) (hts _ (List.mem_of_getElem? (i := 3) rfl)) (fun _ h9 => h9) rfl dX4_addressOf_32 ?_
      refine lv_iload_n hx hb dX4_addressOf_35 rfl (lv_at hl 2 rfl) ?_
      obtain ⟨c11, h⟩ := ck_e h
      refine va_iald (f := (σ 15)) hx hb hKK.1 hz.1 15 0 rfl rfl c11 dX4_addressOf_36 ?_
      refine lv_imul hx hb dX4_addressOf_37 ?_
      refine lv_iadd hx hb dX4_addressOf_38 ?_
      refine lv_goto (tgt := 43) hx hb dX4_addressOf_39 (by decide) ?_
      exact rt (((σ 17) (Int32.toNatClampNeg ((σ 14) (Int32.toNatClampNeg x1)))) + ((4 : Int32) * ((σ 15) (Int32.toNatClampNeg x1)))) σ 43 _ _ _ dX4_addressOf_43 h hz
  · replace h := ite_t c4 h
    refine lv_iconst (v := (-1 : Int32)) hx hb dX4_addressOf_8 (by decide) ?_
    exact rt (-1 : Int32) σ 9 _ _ _ dX4_addressOf_9 h hz
def fX4_addressOf_c (σ : St) (x1 : Int32) : Option (Int32) :=
  (bd1 (fX4_has_c σ x1) fun r1 => (if r1 = 0 then (some (-1 : Int32)) else ((ck (¬ (x1 < 0 ∨ 16 ≤ Int32.toNatClampNeg x1)) <| (bd1 (fX4_isItem σ ((σ 20) (Int32.toNatClampNeg x1))) fun r6 => (if r6 = 0 then (some (-1 : Int32)) else ((ck (¬ (((σ 20) (Int32.toNatClampNeg x1)) < 0 ∨ 24 ≤ Int32.toNatClampNeg ((σ 20) (Int32.toNatClampNeg x1)))) <| (ck (¬ (x1 < 0 ∨ 16 ≤ Int32.toNatClampNeg x1)) <| some (((σ 23) (Int32.toNatClampNeg ((σ 20) (Int32.toNatClampNeg x1)))) + ((4 : Int32) * ((σ 21) (Int32.toNatClampNeg x1)))))))))))))
abbrev rmX4_addressOf_c : Room := { frames := 1, cells := 0, slots := 0, locals := 21 }
set_option maxHeartbeats 4000000 in
set_option maxRecDepth 100000 in
theorem KX4_addressOf_c {l : Launch} {dC : Nat → ClassId} {dI : Nat → Nat → Nat} {cI cZ : ClassId} {a : Nat → Nat} {σ : St} {x1 : Int32} {r : Int32} (hok : okA 30 a) (h : fX4_addressOf_c σ x1 = some r) (sz : Nat) : Met l yX4_addressOf wsX4_addressOf rmX4_addressOf_c (Pz (dC, dI) cI cZ (wdC cI cZ a σ) sz [.ref (a 18), .int x1]) (Qzi (dC, dI) 30 a (wdC cI cZ a σ) sz r) 0 0 (aN 30 a sz) := by
  refine Met.ofW (cc := cX4_addressOf) (maxL := 3) (ret := (some .int)) (by decide) rfl ?_
  intro p e s m args below meth c s₁ B hml hv
  obtain ⟨hav, hsz, hP, hKK⟩ := hv
  have hx := B.exec
  have hb := B.bytes
  have hr := B.returns
  have hts := atoms_spec (ws := wsX4_addressOf) B.pre
  have hown : s.vm.findClass RX4 = some m.cls := findClass_of_methodNamed B.named
  have hlocks := B.notSynchronized
  have CF : CallFix p m c cX4_addressOf 3 s args wsX4_addressOf RX4 := ⟨hx, hb, hml, hown, hts⟩
  have hz : zz (dC, dI) 30 a (wdC cI cZ a σ) s.heap s.heap [] := ⟨hP, va_S.rf⟩
  have hl := lv_entry [.ref (a 18), .int x1] (n := 3) (Nat.le_of_ble_eq_true rfl)
  have hen : entryFrame m args 3 = entryFrame m ([.ref (a 18), .int x1] : List Value).toArray 3 := by rw [hav]
  rw [hen, lg_entry_eq]
  generalize (lg_sl [.ref (a 18), .int x1] ++ List.replicate (3 - (lg_sl [.ref (a 18), .int x1]).length) Slot.unset).toArray = ls at hl ⊢
  have hl : lv_has ls 3 [(0, .ref (a 18)), (1, .int x1)] := hl
  have eR : (headSpec wsX4_addressOf rmX4_addressOf_c).room = rmX4_addressOf_c := rfl
  rw [eR]
  have rt : ∀ (v : Int32) (t : St) (pc : Nat) (H : Heap) (locs : List Loc) (ls : Array Slot), decode cX4_addressOf pc = .ok (.ireturn, 1) → some v = some r → zz (dC, dI) 30 a (wdC cI cZ a σ) s.heap H locs → W p l e rmX4_addressOf_c s m args below meth c H locs 0 0 (MQ below (Qzi (dC, dI) 30 a (wdC cI cZ a σ) sz r) args s 0 0 (aN 30 a sz)) (F0 m pc ls [.int v]) := by
    intro v t pc H locs ls hd h hz
    cases h
    exact ziret hsz hx hb hr hlocks hz hd
  generalize (MQ below (Qzi (dC, dI) 30 a (wdC cI cZ a σ) sz r) args s 0 0 (aN 30 a sz)) = Q at rt ⊢
  unfold fX4_addressOf_c at h
  refine lv_aload_n hx hb dX4_addressOf_0 rfl (lv_at hl 0 rfl) ?_
  refine lv_iload_n hx hb dX4_addressOf_1 rfl (lv_at hl 1 rfl) ?_
  obtain ⟨r1, e3, h⟩ := bd1_e h
  refine zcallVi (As := [.int x1]) (rest := []) CF hKK (KX4_has_c (dC := dC) (dI := dI) (cI := cI) (cZ := cZ) (a := a) hok e3) (cwV 1 hts gX4_addressOf_X4_has rfl rfl rfl cdX4_has ⟨Nat.le_of_ble_eq_true rfl, Nat.le_of_ble_eq_true rfl⟩) 18 4 rfl rfl hz rfl hl.1 rfl (Nat.le_of_ble_eq_true rfl) dX4_addressOf_2 ⟨Nat.le_refl _, Nat.le_refl _⟩ (fun H locs hz => ?_)
  refine lv_if_ne (tgt := 10) hx hb dX4_addressOf_5 (by decide) (fun c4 => ?_) (fun c4 => ?_)
  · replace h := ite_f c4 h
    refine lv_aload_n hx hb dX4_addressOf_10 rfl (lv_at hl 0 rfl) ?_
    refine va_get (v := .ref (a 20)) hx hb hts inX4_addressOf_X4 hown hKK.1 hz.1 18 rfl rfl 1 (by decide) (hts _ (List.mem_of_getElem? (i := 1) rfl)) (fun _ h9 => h9) rfl dX4_addressOf_11 ?_
    refine lv_iload_n hx hb dX4_addressOf_14 rfl (lv_at hl 1 rfl) ?_
    obtain ⟨c5, h⟩ := ck_e h
    refine va_iald (f := (σ 20)) hx hb hKK.1 hz.1 20 0 rfl rfl c5 dX4_addressOf_15 ?_
    refine lv_istore_n (lv' := [(2, .int ((σ 20) (Int32.toNatClampNeg x1))), (0, .ref (a 18)), (1, .int x1)]) hx hb dX4_addressOf_16 rfl hl (by decide) rfl (fun ls hl => ?_)
    refine lv_iload_n hx hb dX4_addressOf_17 rfl (lv_at hl 0 rfl) ?_
    obtain ⟨r6, e8, h⟩ := bd1_e h
    refine zcallSi (As := [.int ((σ 20) (Int32.toNatClampNeg x1))]) (rest := []) CF hKK (KX4_isItem (dC := dC) (dI := dI) (cI := cI) (cZ := cZ) (a := a) hok e8) (va_cwS 1 hts gX4_addressOf_X4_isItem rfl rfl rfl cdX4_isItem.2 ⟨Nat.le_of_ble_eq_true rfl, Nat.le_of_ble_eq_true rfl⟩) hz rfl hl.1 rfl (Nat.le_of_ble_eq_true rfl) dX4_addressOf_18 ⟨Nat.le_refl _, Nat.le_refl _⟩ (fun H locs hz => ?_)
    refine lv_if_eq (tgt := 42) hx hb dX4_addressOf_21 (by decide) (fun c9 => ?_) (fun c9 => ?_)
    · replace h := ite_t c9 h
      refine lv_iconst (v := (-1 : Int32)) hx hb dX4_addressOf_42 (by decide) ?_
      exact rt (-1 : Int32) σ 43 _ _ _ dX4_addressOf_43 h hz
    · replace h := ite_f c9 h
      refine lv_aload_n hx hb dX4_addressOf_24 rfl (lv_at hl 1 rfl) ?_
      refine va_get (v := .ref (a 23)) hx hb hts inX4_addressOf_X4 hown hKK.1 hz.1 18 rfl rfl 4 (by decide) (hts _ (List.mem_of_getElem? (i := 2) rfl)) (fun _ h9 => h9) rfl dX4_addressOf_25 ?_
      refine lv_iload_n hx hb dX4_addressOf_28 rfl (lv_at hl 0 rfl) ?_
      obtain ⟨c10, h⟩ := ck_e h
      refine va_iald (f := (σ 23)) hx hb hKK.1 hz.1 23 0 rfl rfl c10 dX4_addressOf_29 ?_
      refine lv_iconst (v := (4 : Int32)) hx hb dX4_addressOf_30 (by decide) ?_
      refine lv_aload_n hx hb dX4_addressOf_31 rfl (lv_at hl 1 rfl) ?_
      refine va_get (v := .ref (a 21)) hx hb hts inX4_addressOf_X4 hown hKK.1 hz.1 18 rfl rfl 2 (by decide) (hts _ (List.mem_of_getElem? (i := 3) rfl)) (fun _ h9 => h9) rfl dX4_addressOf_32 ?_
      refine lv_iload_n hx hb dX4_addressOf_35 rfl (lv_at hl 2 rfl) ?_
      obtain ⟨c11, h⟩ := ck_e h
      refine va_iald (f := (σ 21)) hx hb hKK.1 hz.1 21 0 rfl rfl c11 dX4_addressOf_36 ?_
      refine lv_imul hx hb dX4_addressOf_37 ?_
      refine lv_iadd hx hb dX4_addressOf_38 ?_
      refine lv_goto (tgt := 43) hx hb dX4_addressOf_39 (by decide) ?_
      exact rt (((σ 23) (Int32.toNatClampNeg ((σ 20) (Int32.toNatClampNeg x1)))) + ((4 : Int32) * ((σ 21) (Int32.toNatClampNeg x1)))) σ 43 _ _ _ dX4_addressOf_43 h hz
  · replace h := ite_t c4 h
    refine lv_iconst (v := (-1 : Int32)) hx hb dX4_addressOf_8 (by decide) ?_
    exact rt (-1 : Int32) σ 9 _ _ _ dX4_addressOf_9 h hz
def fX4_nameOf_i (σ : St) (x1 : Int32) : Option (Int32) :=
  (bd1 (fX4_has_i σ x1) fun r1 => (if r1 = 0 then (some (-1 : Int32)) else ((ck (¬ (x1 < 0 ∨ 12 ≤ Int32.toNatClampNeg x1)) <| some ((σ 13) (Int32.toNatClampNeg x1))))))
abbrev rmX4_nameOf_i : Room := { frames := 1, cells := 0, slots := 0, locals := 21 }
set_option maxHeartbeats 4000000 in
set_option maxRecDepth 100000 in
theorem KX4_nameOf_i {l : Launch} {dC : Nat → ClassId} {dI : Nat → Nat → Nat} {cI cZ : ClassId} {a : Nat → Nat} {σ : St} {x1 : Int32} {r : Int32} (hok : okA 30 a) (h : fX4_nameOf_i σ x1 = some r) (sz : Nat) : Met l yX4_nameOf wsX4_nameOf rmX4_nameOf_i (Pz (dC, dI) cI cZ (wdC cI cZ a σ) sz [.ref (a 12), .int x1]) (Qzi (dC, dI) 30 a (wdC cI cZ a σ) sz r) 0 0 (aN 30 a sz) := by
  refine Met.ofW (cc := cX4_nameOf) (maxL := 2) (ret := (some .int)) (by decide) rfl ?_
  intro p e s m args below meth c s₁ B hml hv
  obtain ⟨hav, hsz, hP, hKK⟩ := hv
  have hx := B.exec
  have hb := B.bytes
  have hr := B.returns
  have hts := atoms_spec (ws := wsX4_nameOf) B.pre
  have hown : s.vm.findClass RX4 = some m.cls := findClass_of_methodNamed B.named
  have hlocks := B.notSynchronized
  have CF : CallFix p m c cX4_nameOf 2 s args wsX4_nameOf RX4 := ⟨hx, hb, hml, hown, hts⟩
  have hz : zz (dC, dI) 30 a (wdC cI cZ a σ) s.heap s.heap [] := ⟨hP, va_S.rf⟩
  have hl := lv_entry [.ref (a 12), .int x1] (n := 2) (Nat.le_of_ble_eq_true rfl)
  have hen : entryFrame m args 2 = entryFrame m ([.ref (a 12), .int x1] : List Value).toArray 2 := by rw [hav]
  rw [hen, lg_entry_eq]
  generalize (lg_sl [.ref (a 12), .int x1] ++ List.replicate (2 - (lg_sl [.ref (a 12), .int x1]).length) Slot.unset).toArray = ls at hl ⊢
  have hl : lv_has ls 2 [(0, .ref (a 12)), (1, .int x1)] := hl
  have eR : (headSpec wsX4_nameOf rmX4_nameOf_i).room = rmX4_nameOf_i := rfl
  rw [eR]
  have rt : ∀ (v : Int32) (t : St) (pc : Nat) (H : Heap) (locs : List Loc) (ls : Array Slot), decode cX4_nameOf pc = .ok (.ireturn, 1) → some v = some r → zz (dC, dI) 30 a (wdC cI cZ a σ) s.heap H locs → W p l e rmX4_nameOf_i s m args below meth c H locs 0 0 (MQ below (Qzi (dC, dI) 30 a (wdC cI cZ a σ) sz r) args s 0 0 (aN 30 a sz)) (F0 m pc ls [.int v]) := by
    intro v t pc H locs ls hd h hz
    cases h
    exact ziret hsz hx hb hr hlocks hz hd
  generalize (MQ below (Qzi (dC, dI) 30 a (wdC cI cZ a σ) sz r) args s 0 0 (aN 30 a sz)) = Q at rt ⊢
  unfold fX4_nameOf_i at h
  refine lv_aload_n hx hb dX4_nameOf_0 rfl (lv_at hl 0 rfl) ?_
  refine lv_iload_n hx hb dX4_nameOf_1 rfl (lv_at hl 1 rfl) ?_
  obtain ⟨r1, e3, h⟩ := bd1_e h
  refine zcallVi (As := [.int x1]) (rest := []) CF hKK (KX4_has_i (dC := dC) (dI := dI) (cI := cI) (cZ := cZ) (a := a) hok e3) (cwV 1 hts gX4_nameOf_X4_has rfl rfl rfl cdX4_has ⟨Nat.le_of_ble_eq_true rfl, Nat.le_of_ble_eq_true rfl⟩) 12 4 rfl rfl hz rfl hl.1 rfl (Nat.le_of_ble_eq_true rfl) dX4_nameOf_2 ⟨Nat.le_refl _, Nat.le_refl _⟩ (fun H locs hz => ?_)
  refine lv_if_eq (tgt := 17) hx hb dX4_nameOf_5 (by decide) (fun c4 => ?_) (fun c4 => ?_)
  · replace h := ite_t c4 h
    refine lv_iconst (v := (-1 : Int32)) hx hb dX4_nameOf_17 (by decide) ?_
    exact rt (-1 : Int32) σ 18 _ _ _ dX4_nameOf_18 h hz
  · replace h := ite_f c4 h
    refine lv_aload_n hx hb dX4_nameOf_8 rfl (lv_at hl 0 rfl) ?_
    refine va_get (v := .ref (a 13)) hx hb hts inX4_nameOf_X4 hown hKK.1 hz.1 12 rfl rfl 0 (by decide) (hts _ (List.mem_of_getElem? (i := 1) rfl)) (fun _ h9 => h9) rfl dX4_nameOf_9 ?_
    refine lv_iload_n hx hb dX4_nameOf_12 rfl (lv_at hl 1 rfl) ?_
    obtain ⟨c5, h⟩ := ck_e h
    refine va_iald (f := (σ 13)) hx hb hKK.1 hz.1 13 0 rfl rfl c5 dX4_nameOf_13 ?_
    refine lv_goto (tgt := 18) hx hb dX4_nameOf_14 (by decide) ?_
    exact rt ((σ 13) (Int32.toNatClampNeg x1)) σ 18 _ _ _ dX4_nameOf_18 h hz
def fX4_nameOf_c (σ : St) (x1 : Int32) : Option (Int32) :=
  (bd1 (fX4_has_c σ x1) fun r1 => (if r1 = 0 then (some (-1 : Int32)) else ((ck (¬ (x1 < 0 ∨ 16 ≤ Int32.toNatClampNeg x1)) <| some ((σ 19) (Int32.toNatClampNeg x1))))))
abbrev rmX4_nameOf_c : Room := { frames := 1, cells := 0, slots := 0, locals := 21 }
set_option maxHeartbeats 4000000 in
set_option maxRecDepth 100000 in
theorem KX4_nameOf_c {l : Launch} {dC : Nat → ClassId} {dI : Nat → Nat → Nat} {cI cZ : ClassId} {a : Nat → Nat} {σ : St} {x1 : Int32} {r : Int32} (hok : okA 30 a) (h : fX4_nameOf_c σ x1 = some r) (sz : Nat) : Met l yX4_nameOf wsX4_nameOf rmX4_nameOf_c (Pz (dC, dI) cI cZ (wdC cI cZ a σ) sz [.ref (a 18), .int x1]) (Qzi (dC, dI) 30 a (wdC cI cZ a σ) sz r) 0 0 (aN 30 a sz) := by
  refine Met.ofW (cc := cX4_nameOf) (maxL := 2) (ret := (some .int)) (by decide) rfl ?_
  intro p e s m args below meth c s₁ B hml hv
  obtain ⟨hav, hsz, hP, hKK⟩ := hv
  have hx := B.exec
  have hb := B.bytes
  have hr := B.returns
  have hts := atoms_spec (ws := wsX4_nameOf) B.pre
  have hown : s.vm.findClass RX4 = some m.cls := findClass_of_methodNamed B.named
  have hlocks := B.notSynchronized
  have CF : CallFix p m c cX4_nameOf 2 s args wsX4_nameOf RX4 := ⟨hx, hb, hml, hown, hts⟩
  have hz : zz (dC, dI) 30 a (wdC cI cZ a σ) s.heap s.heap [] := ⟨hP, va_S.rf⟩
  have hl := lv_entry [.ref (a 18), .int x1] (n := 2) (Nat.le_of_ble_eq_true rfl)
  have hen : entryFrame m args 2 = entryFrame m ([.ref (a 18), .int x1] : List Value).toArray 2 := by rw [hav]
  rw [hen, lg_entry_eq]
  generalize (lg_sl [.ref (a 18), .int x1] ++ List.replicate (2 - (lg_sl [.ref (a 18), .int x1]).length) Slot.unset).toArray = ls at hl ⊢
  have hl : lv_has ls 2 [(0, .ref (a 18)), (1, .int x1)] := hl
  have eR : (headSpec wsX4_nameOf rmX4_nameOf_c).room = rmX4_nameOf_c := rfl
  rw [eR]
  have rt : ∀ (v : Int32) (t : St) (pc : Nat) (H : Heap) (locs : List Loc) (ls : Array Slot), decode cX4_nameOf pc = .ok (.ireturn, 1) → some v = some r → zz (dC, dI) 30 a (wdC cI cZ a σ) s.heap H locs → W p l e rmX4_nameOf_c s m args below meth c H locs 0 0 (MQ below (Qzi (dC, dI) 30 a (wdC cI cZ a σ) sz r) args s 0 0 (aN 30 a sz)) (F0 m pc ls [.int v]) := by
    intro v t pc H locs ls hd h hz
    cases h
    exact ziret hsz hx hb hr hlocks hz hd
  generalize (MQ below (Qzi (dC, dI) 30 a (wdC cI cZ a σ) sz r) args s 0 0 (aN 30 a sz)) = Q at rt ⊢
  unfold fX4_nameOf_c at h
  refine lv_aload_n hx hb dX4_nameOf_0 rfl (lv_at hl 0 rfl) ?_
  refine lv_iload_n hx hb dX4_nameOf_1 rfl (lv_at hl 1 rfl) ?_
  obtain ⟨r1, e3, h⟩ := bd1_e h
  refine zcallVi (As := [.int x1]) (rest := []) CF hKK (KX4_has_c (dC := dC) (dI := dI) (cI := cI) (cZ := cZ) (a := a) hok e3) (cwV 1 hts gX4_nameOf_X4_has rfl rfl rfl cdX4_has ⟨Nat.le_of_ble_eq_true rfl, Nat.le_of_ble_eq_true rfl⟩) 18 4 rfl rfl hz rfl hl.1 rfl (Nat.le_of_ble_eq_true rfl) dX4_nameOf_2 ⟨Nat.le_refl _, Nat.le_refl _⟩ (fun H locs hz => ?_)
  refine lv_if_eq (tgt := 17) hx hb dX4_nameOf_5 (by decide) (fun c4 => ?_) (fun c4 => ?_)
  · replace h := ite_t c4 h
    refine lv_iconst (v := (-1 : Int32)) hx hb dX4_nameOf_17 (by decide) ?_
    exact rt (-1 : Int32) σ 18 _ _ _ dX4_nameOf_18 h hz
  · replace h := ite_f c4 h
    refine lv_aload_n hx hb dX4_nameOf_8 rfl (lv_at hl 0 rfl) ?_
    refine va_get (v := .ref (a 19)) hx hb hts inX4_nameOf_X4 hown hKK.1 hz.1 18 rfl rfl 0 (by decide) (hts _ (List.mem_of_getElem? (i := 1) rfl)) (fun _ h9 => h9) rfl dX4_nameOf_9 ?_
    refine lv_iload_n hx hb dX4_nameOf_12 rfl (lv_at hl 1 rfl) ?_
    obtain ⟨c5, h⟩ := ck_e h
    refine va_iald (f := (σ 19)) hx hb hKK.1 hz.1 19 0 rfl rfl c5 dX4_nameOf_13 ?_
    refine lv_goto (tgt := 18) hx hb dX4_nameOf_14 (by decide) ?_
    exact rt ((σ 19) (Int32.toNatClampNeg x1)) σ 18 _ _ _ dX4_nameOf_18 h hz
def fX2_isInLoadReach (σ : St) (x1 : Int32) (x2 : Int32) : Option (Int32) :=
  (if x2 ≤ x1 then (some (0 : Int32)) else ((if ((σ 10) (Int32.toNatClampNeg (2 : Int32))) < (x2 - x1) then (some (0 : Int32)) else (some (1 : Int32)))))
abbrev rmX2_isInLoadReach : Room := { frames := 0, cells := 0, slots := 0, locals := 0 }
set_option maxHeartbeats 4000000 in
set_option maxRecDepth 100000 in
theorem KX2_isInLoadReach {l : Launch} {dC : Nat → ClassId} {dI : Nat → Nat → Nat} {cI cZ : ClassId} {a : Nat → Nat} {σ : St} {x1 : Int32} {x2 : Int32} {r : Int32} (hok : okA 30 a) (h : fX2_isInLoadReach σ x1 x2 = some r) (sz : Nat) : Met l yX2_isInLoadReach wsX2_isInLoadReach rmX2_isInLoadReach (Pz (dC, dI) cI cZ (wdC cI cZ a σ) sz [.ref (a 11), .int x1, .int x2]) (Qzi (dC, dI) 30 a (wdC cI cZ a σ) sz r) 0 0 (aN 30 a sz) := by
  refine Met.ofW (cc := cX2_isInLoadReach) (maxL := 3) (ret := (some .boolean)) (by decide) rfl ?_
  intro p e s m args below meth c s₁ B hml hv
  obtain ⟨hav, hsz, hP, hKK⟩ := hv
  have hx := B.exec
  have hb := B.bytes
  have hr := B.returns
  have hts := atoms_spec (ws := wsX2_isInLoadReach) B.pre
  have hown : s.vm.findClass RX2 = some m.cls := findClass_of_methodNamed B.named
  have hlocks := B.notSynchronized
  have CF : CallFix p m c cX2_isInLoadReach 3 s args wsX2_isInLoadReach RX2 := ⟨hx, hb, hml, hown, hts⟩
  have hz : zz (dC, dI) 30 a (wdC cI cZ a σ) s.heap s.heap [] := ⟨hP, va_S.rf⟩
  have hl := lv_entry [.ref (a 11), .int x1, .int x2] (n := 3) (Nat.le_of_ble_eq_true rfl)
  have hen : entryFrame m args 3 = entryFrame m ([.ref (a 11), .int x1, .int x2] : List Value).toArray 3 := by rw [hav]
  rw [hen, lg_entry_eq]
  generalize (lg_sl [.ref (a 11), .int x1, .int x2] ++ List.replicate (3 - (lg_sl [.ref (a 11), .int x1, .int x2]).length) Slot.unset).toArray = ls at hl ⊢
  have hl : lv_has ls 3 [(0, .ref (a 11)), (1, .int x1), (2, .int x2)] := hl
  have eR : (headSpec wsX2_isInLoadReach rmX2_isInLoadReach).room = rmX2_isInLoadReach := rfl
  rw [eR]
  have rt : ∀ (v : Int32) (t : St) (pc : Nat) (H : Heap) (locs : List Loc) (ls : Array Slot), decode cX2_isInLoadReach pc = .ok (.ireturn, 1) → some v = some r → zz (dC, dI) 30 a (wdC cI cZ a σ) s.heap H locs → (v = 0 ∨ v = 1) → W p l e rmX2_isInLoadReach s m args below meth c H locs 0 0 (MQ below (Qzi (dC, dI) 30 a (wdC cI cZ a σ) sz r) args s 0 0 (aN 30 a sz)) (F0 m pc ls [.int v]) := by
    intro v t pc H locs ls hd h hz hv
    cases h
    exact zzret hsz hx hb hr hlocks hv hz hd
  generalize (MQ below (Qzi (dC, dI) 30 a (wdC cI cZ a σ) sz r) args s 0 0 (aN 30 a sz)) = Q at rt ⊢
  unfold fX2_isInLoadReach at h
  refine lv_iload_n hx hb dX2_isInLoadReach_0 rfl (lv_at hl 2 rfl) ?_
  refine lv_iload_n hx hb dX2_isInLoadReach_1 rfl (lv_at hl 1 rfl) ?_
  refine lv_icmp_le (tgt := 21) hx hb dX2_isInLoadReach_2 (by decide) (fun c1 => ?_) (fun c1 => ?_)
  · replace h := ite_t c1 h
    refine lv_iconst (v := (0 : Int32)) hx hb dX2_isInLoadReach_21 (by decide) ?_
    exact rt (0 : Int32) σ 22 _ _ _ dX2_isInLoadReach_22 h hz (Or.inl rfl)
  · replace h := ite_f c1 h
    refine lv_iload_n hx hb dX2_isInLoadReach_5 rfl (lv_at hl 2 rfl) ?_
    refine lv_iload_n hx hb dX2_isInLoadReach_6 rfl (lv_at hl 1 rfl) ?_
    refine lv_isub hx hb dX2_isInLoadReach_7 ?_
    refine lv_aload_n hx hb dX2_isInLoadReach_8 rfl (lv_at hl 0 rfl) ?_
    refine va_get (v := .ref (a 10)) hx hb hts inX2_isInLoadReach_X2 hown hKK.1 hz.1 11 rfl rfl 1 (by decide) (hts _ (List.mem_of_getElem? (i := 1) rfl)) (fun _ h9 => h9) rfl dX2_isInLoadReach_9 ?_
    refine lv_iconst (v := (2 : Int32)) hx hb dX2_isInLoadReach_12 (by decide) ?_
    refine va_iald (f := (σ 10)) hx hb hKK.1 hz.1 10 0 rfl rfl (by decide : vp_inD (2 : Int32) 3) dX2_isInLoadReach_13 ?_
    refine lv_icmp_gt (tgt := 21) hx hb dX2_isInLoadReach_14 (by decide) (fun c2 => ?_) (fun c2 => ?_)
    · replace h := ite_t c2 h
      refine lv_iconst (v := (0 : Int32)) hx hb dX2_isInLoadReach_21 (by decide) ?_
      exact rt (0 : Int32) σ 22 _ _ _ dX2_isInLoadReach_22 h hz (Or.inl rfl)
    · replace h := ite_f c2 h
      refine lv_iconst (v := (1 : Int32)) hx hb dX2_isInLoadReach_17 (by decide) ?_
      refine lv_goto (tgt := 22) hx hb dX2_isInLoadReach_18 (by decide) ?_
      exact rt (1 : Int32) σ 22 _ _ _ dX2_isInLoadReach_22 h hz (Or.inr rfl)
def fX2_constantFor_s5 (σ : St) (k5 : Int32 → Int32 → Int32 → Int32 → Option (Int32)) (y1 : Int32) (y2 : Int32) (y3 : Int32) (y4 : Int32) : Option (Int32) :=
  (bd1 (fX4_size_c σ ) fun r1 => (if r1 ≤ y4 then (some y3) else ((bd1 (fX4_addressOf_c σ y4) fun r5 => (bd1 (fX4_nameOf_c σ y4) fun r8 => (if r8 = y2 then ((bd1 (fX2_isInLoadReach σ y1 r5) fun r12 => (if r12 = 0 then (k5 y1 y2 y3 (y4 + (1 : Int32))) else ((if y3 = (-1 : Int32) then (k5 y1 y2 y4 (y4 + (1 : Int32))) else ((bd1 (fX4_addressOf_c σ y3) fun r17 => (if r17 ≤ r5 then (k5 y1 y2 y3 (y4 + (1 : Int32))) else (k5 y1 y2 y4 (y4 + (1 : Int32))))))))))) else (k5 y1 y2 y3 (y4 + (1 : Int32)))))))))
def fX2_constantFor_l5 (σ : St)  : Nat → Int32 → Int32 → Int32 → Int32 → Option (Int32) :=
  itr (fX2_constantFor_s5 σ ) (fun _ _ _ _ => none)
def fX2_constantFor (σ : St) (x1 : Int32) (x2 : Int32) : Option (Int32) :=
  fX2_constantFor_l5 σ  FU x1 x2 (-1 : Int32) (0 : Int32)
abbrev rmX2_constantFor : Room := { frames := 2, cells := 0, slots := 0, locals := 43 }
set_option maxHeartbeats 4000000 in
set_option maxRecDepth 100000 in
theorem KX2_constantFor {l : Launch} {dC : Nat → ClassId} {dI : Nat → Nat → Nat} {cI cZ : ClassId} {a : Nat → Nat} {σ : St} {x1 : Int32} {x2 : Int32} {r : Int32} (hok : okA 30 a) (h : fX2_constantFor σ x1 x2 = some r) (sz : Nat) : Met l yX2_constantFor wsX2_constantFor rmX2_constantFor (Pz (dC, dI) cI cZ (wdC cI cZ a σ) sz [.ref (a 11), .int x1, .int x2]) (Qzi (dC, dI) 30 a (wdC cI cZ a σ) sz r) 0 0 (aN 30 a sz) := by
  refine Met.ofW (cc := cX2_constantFor) (maxL := 6) (ret := (some .int)) (by decide) rfl ?_
  intro p e s m args below meth c s₁ B hml hv
  obtain ⟨hav, hsz, hP, hKK⟩ := hv
  have hx := B.exec
  have hb := B.bytes
  have hr := B.returns
  have hts := atoms_spec (ws := wsX2_constantFor) B.pre
  have hown : s.vm.findClass RX2 = some m.cls := findClass_of_methodNamed B.named
  have hlocks := B.notSynchronized
  have CF : CallFix p m c cX2_constantFor 6 s args wsX2_constantFor RX2 := ⟨hx, hb, hml, hown, hts⟩
  have hz : zz (dC, dI) 30 a (wdC cI cZ a σ) s.heap s.heap [] := ⟨hP, va_S.rf⟩
  have hl := lv_entry [.ref (a 11), .int x1, .int x2] (n := 6) (Nat.le_of_ble_eq_true rfl)
  have hen : entryFrame m args 6 = entryFrame m ([.ref (a 11), .int x1, .int x2] : List Value).toArray 6 := by rw [hav]
  rw [hen, lg_entry_eq]
  generalize (lg_sl [.ref (a 11), .int x1, .int x2] ++ List.replicate (6 - (lg_sl [.ref (a 11), .int x1, .int x2]).length) Slot.unset).toArray = ls at hl ⊢
  have hl : lv_has ls 6 [(0, .ref (a 11)), (1, .int x1), (2, .int x2)] := hl
  have eR : (headSpec wsX2_constantFor rmX2_constantFor).room = rmX2_constantFor := rfl
  rw [eR]
  have rt : ∀ (v : Int32) (t : St) (pc : Nat) (H : Heap) (locs : List Loc) (ls : Array Slot), decode cX2_constantFor pc = .ok (.ireturn, 1) → some v = some r → zz (dC, dI) 30 a (wdC cI cZ a σ) s.heap H locs → W p l e rmX2_constantFor s m args below meth c H locs 0 0 (MQ below (Qzi (dC, dI) 30 a (wdC cI cZ a σ) sz r) args s 0 0 (aN 30 a sz)) (F0 m pc ls [.int v]) := by
    intro v t pc H locs ls hd h hz
    cases h
    exact ziret hsz hx hb hr hlocks hz hd
  generalize (MQ below (Qzi (dC, dI) 30 a (wdC cI cZ a σ) sz r) args s 0 0 (aN 30 a sz)) = Q at rt ⊢
  have s5 : ∀ (k5 : Int32 → Int32 → Int32 → Int32 → Option (Int32)) (hk5 : (∀ (y1 : Int32) (y2 : Int32) (y3 : Int32) (y4 : Int32) (H : Heap) (locs : List Loc) (ls : Array Slot), k5 y1 y2 y3 y4 = some r → zz (dC, dI) 30 a (wdC cI cZ a σ) s.heap H locs → lv_has ls 6 [(0, .ref (a 11)), (1, .int y1), (2, .int y2), (3, .int y3), (4, .int y4)] → W p l e rmX2_constantFor s m args below meth c H locs 0 0 Q (F0 m 5 ls []))) (y1 : Int32) (y2 : Int32) (y3 : Int32) (y4 : Int32) (H : Heap) (locs : List Loc) (ls : Array Slot), fX2_constantFor_s5 σ k5 y1 y2 y3 y4 = some r → zz (dC, dI) 30 a (wdC cI cZ a σ) s.heap H locs → lv_has ls 6 [(0, .ref (a 11)), (1, .int y1), (2, .int y2), (3, .int y3), (4, .int y4)] → W p l e rmX2_constantFor s m args below meth c H locs 0 0 Q (F0 m 5 ls []) := by
    intro k5 hk5 y1 y2 y3 y4 H locs ls h hz hl
    unfold fX2_constantFor_s5 at h
    refine lv_iload hx hb dX2_constantFor_5 (lv_at hl 4 rfl) ?_
    refine lv_aload_n hx hb dX2_constantFor_7 rfl (lv_at hl 0 rfl) ?_
    refine va_get (v := .ref (a 18)) hx hb hts inX2_constantFor_X2 hown hKK.1 hz.1 11 rfl rfl 3 (by decide) (hts _ (List.mem_of_getElem? (i := 1) rfl)) (fun _ h9 => h9) rfl dX2_constantFor_8 ?_
    obtain ⟨r1, e3, h⟩ := bd1_e h
    refine zcallVi (As := []) (rest := [.int y4]) CF hKK (KX4_size_c (dC := dC) (dI := dI) (cI := cI) (cZ := cZ) (a := a) hok e3) (cwV 0 hts gX2_constantFor_X4_size rfl rfl rfl cdX4_size ⟨Nat.le_of_ble_eq_true rfl, Nat.le_of_ble_eq_true rfl⟩) 18 4 rfl rfl hz rfl hl.1 rfl (Nat.le_of_ble_eq_true rfl) dX2_constantFor_11 ⟨Nat.le_refl _, Nat.le_refl _⟩ (fun H locs hz => ?_)
    refine lv_icmp_ge (tgt := 78) hx hb dX2_constantFor_14 (by decide) (fun c4 => ?_) (fun c4 => ?_)
    · replace h := ite_t c4 h
      refine lv_iload_n hx hb dX2_constantFor_78 rfl (lv_at hl 3 rfl) ?_
      exact rt y3 σ 79 _ _ _ dX2_constantFor_79 h hz
    · replace h := ite_f c4 h
      refine lv_aload_n hx hb dX2_constantFor_17 rfl (lv_at hl 0 rfl) ?_
      refine va_get (v := .ref (a 18)) hx hb hts inX2_constantFor_X2 hown hKK.1 hz.1 11 rfl rfl 3 (by decide) (hts _ (List.mem_of_getElem? (i := 1) rfl)) (fun _ h9 => h9) rfl dX2_constantFor_18 ?_
      refine lv_iload hx hb dX2_constantFor_21 (lv_at hl 4 rfl) ?_
      obtain ⟨r5, e7, h⟩ := bd1_e h
      refine zcallVi (As := [.int y4]) (rest := []) CF hKK (KX4_addressOf_c (dC := dC) (dI := dI) (cI := cI) (cZ := cZ) (a := a) hok e7) (cwV 1 hts gX2_constantFor_X4_addressOf rfl rfl rfl cdX4_addressOf ⟨Nat.le_of_ble_eq_true rfl, Nat.le_of_ble_eq_true rfl⟩) 18 4 rfl rfl hz rfl hl.1 rfl (Nat.le_of_ble_eq_true rfl) dX2_constantFor_23 ⟨Nat.le_refl _, Nat.le_refl _⟩ (fun H locs hz => ?_)
      refine lv_istore (lv' := [(5, .int r5), (0, .ref (a 11)), (1, .int y1), (2, .int y2), (3, .int y3), (4, .int y4)]) hx hb dX2_constantFor_26 hl (by decide) rfl (fun ls hl => ?_)
      refine lv_aload_n hx hb dX2_constantFor_28 rfl (lv_at hl 1 rfl) ?_
      refine va_get (v := .ref (a 18)) hx hb hts inX2_constantFor_X2 hown hKK.1 hz.1 11 rfl rfl 3 (by decide) (hts _ (List.mem_of_getElem? (i := 1) rfl)) (fun _ h9 => h9) rfl dX2_constantFor_29 ?_
      refine lv_iload hx hb dX2_constantFor_32 (lv_at hl 5 rfl) ?_
      obtain ⟨r8, e10, h⟩ := bd1_e h
      refine zcallVi (As := [.int y4]) (rest := []) CF hKK (KX4_nameOf_c (dC := dC) (dI := dI) (cI := cI) (cZ := cZ) (a := a) hok e10) (cwV 1 hts gX2_constantFor_X4_nameOf rfl rfl rfl cdX4_nameOf ⟨Nat.le_of_ble_eq_true rfl, Nat.le_of_ble_eq_true rfl⟩) 18 4 rfl rfl hz rfl hl.1 rfl (Nat.le_of_ble_eq_true rfl) dX2_constantFor_34 ⟨Nat.le_refl _, Nat.le_refl _⟩ (fun H locs hz => ?_)
      refine lv_iload_n hx hb dX2_constantFor_37 rfl (lv_at hl 3 rfl) ?_
      refine lv_icmp_ne (tgt := 72) hx hb dX2_constantFor_38 (by decide) (fun c11 => ?_) (fun c11 => ?_)
      · replace h := ite_f c11 h
        refine lv_iinc (v := (y4 + (1 : Int32))) (lv' := [(4, .int (y4 + (1 : Int32))), (5, .int r5), (0, .ref (a 11)), (1, .int y1), (2, .int y2), (3, .int y3)]) hx hb dX2_constantFor_72 hl (k := 5) rfl rfl (by decide) rfl (fun ls hl => ?_)
        refine lv_goto (tgt := 5) hx hb dX2_constantFor_75 (by decide) ?_
        exact hk5 y1 y2 y3 (y4 + (1 : Int32)) _ _ _ h hz (lv_sub hl [2, 3, 4, 5, 0] rfl)
      · replace h := ite_t c11 h
        refine lv_aload_n hx hb dX2_constantFor_41 rfl (lv_at hl 1 rfl) ?_
        refine lv_iload_n hx hb dX2_constantFor_42 rfl (lv_at hl 2 rfl) ?_
        refine lv_iload hx hb dX2_constantFor_43 (lv_at hl 0 rfl) ?_
        obtain ⟨r12, e14, h⟩ := bd1_e h
        refine zcallVi (As := [.int y1, .int r5]) (rest := []) CF hKK (KX2_isInLoadReach (dC := dC) (dI := dI) (cI := cI) (cZ := cZ) (a := a) hok e14) (cwV 2 hts gX2_constantFor_X2_isInLoadReach rfl rfl rfl cdX2_isInLoadReach ⟨Nat.le_of_ble_eq_true rfl, Nat.le_of_ble_eq_true rfl⟩) 11 2 rfl rfl hz rfl hl.1 rfl (Nat.le_of_ble_eq_true rfl) dX2_constantFor_45 ⟨Nat.le_refl _, Nat.le_refl _⟩ (fun H locs hz => ?_)
        refine lv_if_eq (tgt := 72) hx hb dX2_constantFor_48 (by decide) (fun c15 => ?_) (fun c15 => ?_)
        · replace h := ite_t c15 h
          refine lv_iinc (v := (y4 + (1 : Int32))) (lv' := [(4, .int (y4 + (1 : Int32))), (5, .int r5), (0, .ref (a 11)), (1, .int y1), (2, .int y2), (3, .int y3)]) hx hb dX2_constantFor_72 hl (k := 5) rfl rfl (by decide) rfl (fun ls hl => ?_)
          refine lv_goto (tgt := 5) hx hb dX2_constantFor_75 (by decide) ?_
          exact hk5 y1 y2 y3 (y4 + (1 : Int32)) _ _ _ h hz (lv_sub hl [2, 3, 4, 5, 0] rfl)
        · replace h := ite_f c15 h
          refine lv_iload_n hx hb dX2_constantFor_51 rfl (lv_at hl 4 rfl) ?_
          refine lv_iconst (v := (-1 : Int32)) hx hb dX2_constantFor_52 (by decide) ?_
          refine lv_icmp_eq (tgt := 69) hx hb dX2_constantFor_53 (by decide) (fun c16 => ?_) (fun c16 => ?_)
          · replace h := ite_t c16 h
            refine lv_iload hx hb dX2_constantFor_69 (lv_at hl 5 rfl) ?_
            refine lv_istore_n (lv' := [(3, .int y4), (5, .int r5), (0, .ref (a 11)), (1, .int y1), (2, .int y2), (4, .int y4)]) hx hb dX2_constantFor_71 rfl hl (by decide) rfl (fun ls hl => ?_)
            refine lv_iinc (v := (y4 + (1 : Int32))) (lv' := [(4, .int (y4 + (1 : Int32))), (3, .int y4), (5, .int r5), (0, .ref (a 11)), (1, .int y1), (2, .int y2)]) hx hb dX2_constantFor_72 hl (k := 5) rfl rfl (by decide) rfl (fun ls hl => ?_)
            refine lv_goto (tgt := 5) hx hb dX2_constantFor_75 (by decide) ?_
            exact hk5 y1 y2 y4 (y4 + (1 : Int32)) _ _ _ h hz (lv_sub hl [3, 4, 5, 1, 0] rfl)
          · replace h := ite_f c16 h
            refine lv_iload hx hb dX2_constantFor_56 (lv_at hl 0 rfl) ?_
            refine lv_aload_n hx hb dX2_constantFor_58 rfl (lv_at hl 1 rfl) ?_
            refine va_get (v := .ref (a 18)) hx hb hts inX2_constantFor_X2 hown hKK.1 hz.1 11 rfl rfl 3 (by decide) (hts _ (List.mem_of_getElem? (i := 1) rfl)) (fun _ h9 => h9) rfl dX2_constantFor_59 ?_
            refine lv_iload_n hx hb dX2_constantFor_62 rfl (lv_at hl 4 rfl) ?_
            obtain ⟨r17, e19, h⟩ := bd1_e h
            refine zcallVi (As := [.int y3]) (rest := [.int r5]) CF hKK (KX4_addressOf_c (dC := dC) (dI := dI) (cI := cI) (cZ := cZ) (a := a) hok e19) (cwV 1 hts gX2_constantFor_X4_addressOf rfl rfl rfl cdX4_addressOf ⟨Nat.le_of_ble_eq_true rfl, Nat.le_of_ble_eq_true rfl⟩) 18 4 rfl rfl hz rfl hl.1 rfl (Nat.le_of_ble_eq_true rfl) dX2_constantFor_63 ⟨Nat.le_refl _, Nat.le_refl _⟩ (fun H locs hz => ?_)
            refine lv_icmp_ge (tgt := 72) hx hb dX2_constantFor_66 (by decide) (fun c20 => ?_) (fun c20 => ?_)
            · replace h := ite_t c20 h
              refine lv_iinc (v := (y4 + (1 : Int32))) (lv' := [(4, .int (y4 + (1 : Int32))), (5, .int r5), (0, .ref (a 11)), (1, .int y1), (2, .int y2), (3, .int y3)]) hx hb dX2_constantFor_72 hl (k := 5) rfl rfl (by decide) rfl (fun ls hl => ?_)
              refine lv_goto (tgt := 5) hx hb dX2_constantFor_75 (by decide) ?_
              exact hk5 y1 y2 y3 (y4 + (1 : Int32)) _ _ _ h hz (lv_sub hl [2, 3, 4, 5, 0] rfl)
            · replace h := ite_f c20 h
              refine lv_iload hx hb dX2_constantFor_69 (lv_at hl 5 rfl) ?_
              refine lv_istore_n (lv' := [(3, .int y4), (5, .int r5), (0, .ref (a 11)), (1, .int y1), (2, .int y2), (4, .int y4)]) hx hb dX2_constantFor_71 rfl hl (by decide) rfl (fun ls hl => ?_)
              refine lv_iinc (v := (y4 + (1 : Int32))) (lv' := [(4, .int (y4 + (1 : Int32))), (3, .int y4), (5, .int r5), (0, .ref (a 11)), (1, .int y1), (2, .int y2)]) hx hb dX2_constantFor_72 hl (k := 5) rfl rfl (by decide) rfl (fun ls hl => ?_)
              refine lv_goto (tgt := 5) hx hb dX2_constantFor_75 (by decide) ?_
              exact hk5 y1 y2 y4 (y4 + (1 : Int32)) _ _ _ h hz (lv_sub hl [3, 4, 5, 1, 0] rfl)
  have l5 : ∀  (n : Nat), ∀ (y1 : Int32) (y2 : Int32) (y3 : Int32) (y4 : Int32) (H : Heap) (locs : List Loc) (ls : Array Slot), fX2_constantFor_l5 σ  n y1 y2 y3 y4 = some r → zz (dC, dI) 30 a (wdC cI cZ a σ) s.heap H locs → lv_has ls 6 [(0, .ref (a 11)), (1, .int y1), (2, .int y2), (3, .int y3), (4, .int y4)] → W p l e rmX2_constantFor s m args below meth c H locs 0 0 Q (F0 m 5 ls []) := by
    intro  n
    induction n with
    | zero => intro y1 y2 y3 y4 H locs ls h; exact nomatch h
    | succ n ih => exact s5  (fX2_constantFor_l5 σ  n) ih
  unfold fX2_constantFor at h
  refine lv_iconst (v := (-1 : Int32)) hx hb dX2_constantFor_0 (by decide) ?_
  refine lv_istore_n (lv' := [(3, .int (-1 : Int32)), (0, .ref (a 11)), (1, .int x1), (2, .int x2)]) hx hb dX2_constantFor_1 rfl hl (by decide) rfl (fun ls hl => ?_)
  refine lv_iconst (v := (0 : Int32)) hx hb dX2_constantFor_2 (by decide) ?_
  refine lv_istore (lv' := [(4, .int (0 : Int32)), (3, .int (-1 : Int32)), (0, .ref (a 11)), (1, .int x1), (2, .int x2)]) hx hb dX2_constantFor_3 hl (by decide) rfl (fun ls hl => ?_)
  exact l5  FU x1 x2 (-1 : Int32) (0 : Int32) _ _ _ h hz (lv_sub hl [2, 3, 4, 1, 0] rfl)
def fX2_labelAddress (σ : St) (x1 : Int32) : Option (Int32) :=
  (if x1 < 0 then (some (-1 : Int32)) else ((if (8 : Int32) ≤ x1 then (some (-1 : Int32)) else ((ck (¬ (x1 < 0 ∨ 8 ≤ Int32.toNatClampNeg x1)) <| some ((σ 27) (Int32.toNatClampNeg x1)))))))
abbrev rmX2_labelAddress : Room := { frames := 0, cells := 0, slots := 0, locals := 0 }
set_option maxHeartbeats 4000000 in
set_option maxRecDepth 100000 in
theorem KX2_labelAddress {l : Launch} {dC : Nat → ClassId} {dI : Nat → Nat → Nat} {cI cZ : ClassId} {a : Nat → Nat} {σ : St} {x1 : Int32} {r : Int32} (hok : okA 30 a) (h : fX2_labelAddress σ x1 = some r) (sz : Nat) : Met l yX2_labelAddress wsX2_labelAddress rmX2_labelAddress (Pz (dC, dI) cI cZ (wdC cI cZ a σ) sz [.ref (a 11), .int x1]) (Qzi (dC, dI) 30 a (wdC cI cZ a σ) sz r) 0 0 (aN 30 a sz) := by
  refine Met.ofW (cc := cX2_labelAddress) (maxL := 2) (ret := (some .int)) (by decide) rfl ?_
  intro p e s m args below meth c s₁ B hml hv
  obtain ⟨hav, hsz, hP, hKK⟩ := hv
  have hx := B.exec
  have hb := B.bytes
  have hr := B.returns
  have hts := atoms_spec (ws := wsX2_labelAddress) B.pre
  have hown : s.vm.findClass RX2 = some m.cls := findClass_of_methodNamed B.named
  have hlocks := B.notSynchronized
  have CF : CallFix p m c cX2_labelAddress 2 s args wsX2_labelAddress RX2 := ⟨hx, hb, hml, hown, hts⟩
  have hz : zz (dC, dI) 30 a (wdC cI cZ a σ) s.heap s.heap [] := ⟨hP, va_S.rf⟩
  have hl := lv_entry [.ref (a 11), .int x1] (n := 2) (Nat.le_of_ble_eq_true rfl)
  have hen : entryFrame m args 2 = entryFrame m ([.ref (a 11), .int x1] : List Value).toArray 2 := by rw [hav]
  rw [hen, lg_entry_eq]
  generalize (lg_sl [.ref (a 11), .int x1] ++ List.replicate (2 - (lg_sl [.ref (a 11), .int x1]).length) Slot.unset).toArray = ls at hl ⊢
  have hl : lv_has ls 2 [(0, .ref (a 11)), (1, .int x1)] := hl
  have eR : (headSpec wsX2_labelAddress rmX2_labelAddress).room = rmX2_labelAddress := rfl
  rw [eR]
  have rt : ∀ (v : Int32) (t : St) (pc : Nat) (H : Heap) (locs : List Loc) (ls : Array Slot), decode cX2_labelAddress pc = .ok (.ireturn, 1) → some v = some r → zz (dC, dI) 30 a (wdC cI cZ a σ) s.heap H locs → W p l e rmX2_labelAddress s m args below meth c H locs 0 0 (MQ below (Qzi (dC, dI) 30 a (wdC cI cZ a σ) sz r) args s 0 0 (aN 30 a sz)) (F0 m pc ls [.int v]) := by
    intro v t pc H locs ls hd h hz
    cases h
    exact ziret hsz hx hb hr hlocks hz hd
  generalize (MQ below (Qzi (dC, dI) 30 a (wdC cI cZ a σ) sz r) args s 0 0 (aN 30 a sz)) = Q at rt ⊢
  unfold fX2_labelAddress at h
  refine lv_iload_n hx hb dX2_labelAddress_0 rfl (lv_at hl 1 rfl) ?_
  refine lv_if_lt (tgt := 22) hx hb dX2_labelAddress_1 (by decide) (fun c1 => ?_) (fun c1 => ?_)
  · replace h := ite_t c1 h
    refine lv_iconst (v := (-1 : Int32)) hx hb dX2_labelAddress_22 (by decide) ?_
    exact rt (-1 : Int32) σ 23 _ _ _ dX2_labelAddress_23 h hz
  · replace h := ite_f c1 h
    refine lv_iload_n hx hb dX2_labelAddress_4 rfl (lv_at hl 1 rfl) ?_
    refine lv_aload_n hx hb dX2_labelAddress_5 rfl (lv_at hl 0 rfl) ?_
    refine va_get (v := .ref (a 27)) hx hb hts inX2_labelAddress_X2 hown hKK.1 hz.1 11 rfl rfl 7 (by decide) (hts _ (List.mem_of_getElem? (i := 1) rfl)) (fun _ h9 => h9) rfl dX2_labelAddress_6 ?_
    refine va_alen (v := (8 : Int32)) hx hb hKK.1 hz.1 27 0 rfl rfl rfl dX2_labelAddress_9 ?_
    refine lv_icmp_ge (tgt := 22) hx hb dX2_labelAddress_10 (by decide) (fun c2 => ?_) (fun c2 => ?_)
    · replace h := ite_t c2 h
      refine lv_iconst (v := (-1 : Int32)) hx hb dX2_labelAddress_22 (by decide) ?_
      exact rt (-1 : Int32) σ 23 _ _ _ dX2_labelAddress_23 h hz
    · replace h := ite_f c2 h
      refine lv_aload_n hx hb dX2_labelAddress_13 rfl (lv_at hl 0 rfl) ?_
      refine va_get (v := .ref (a 27)) hx hb hts inX2_labelAddress_X2 hown hKK.1 hz.1 11 rfl rfl 7 (by decide) (hts _ (List.mem_of_getElem? (i := 1) rfl)) (fun _ h9 => h9) rfl dX2_labelAddress_14 ?_
      refine lv_iload_n hx hb dX2_labelAddress_17 rfl (lv_at hl 1 rfl) ?_
      obtain ⟨c3, h⟩ := ck_e h
      refine va_iald (f := (σ 27)) hx hb hKK.1 hz.1 27 0 rfl rfl c3 dX2_labelAddress_18 ?_
      refine lv_goto (tgt := 23) hx hb dX2_labelAddress_19 (by decide) ?_
      exact rt ((σ 27) (Int32.toNatClampNeg x1)) σ 23 _ _ _ dX2_labelAddress_23 h hz
