def fX6_within (σ : St) (x1 : Int32) (x2 : Int32) (x3 : Int32) : Option (Int32) :=
  (if x1 < x2 then (some (0 : Int32)) else ((if x3 < x1 then (some (0 : Int32)) else (some (1 : Int32)))))
abbrev rmX6_within : Room := { frames := 0, cells := 0, slots := 0, locals := 0 }
set_option maxHeartbeats 4000000 in
set_option maxRecDepth 100000 in
theorem KX6_within {l : Launch} {dC : Nat → ClassId} {dI : Nat → Nat → Nat} {cI cZ : ClassId} {a : Nat → Nat} {hh : Int64} {σ : St} {x1 : Int32} {x2 : Int32} {x3 : Int32} {r : Int32} (hok : okA 18 a) (h : fX6_within σ x1 x2 x3 = some r) (sz : Nat) : Met l yX6_within wsX6_within rmX6_within (Pz (dC, dI) cI cZ (wdM cI cZ a hh σ) sz [.int x1, .int x2, .int x3]) (Qzi (dC, dI) 18 a (wdM cI cZ a hh σ) sz r) 0 0 (aN 18 a sz) := by
  refine Met.ofW (cc := cX6_within) (maxL := 3) (ret := (some .boolean)) (by decide) rfl ?_
  intro p e s m args below meth c s₁ B hml hv
  obtain ⟨hav, hsz, hP, hKK⟩ := hv
  have hx := B.exec
  have hb := B.bytes
  have hr := B.returns
  have hts := atoms_spec (ws := wsX6_within) B.pre
  have hown : s.vm.findClass RX6 = some m.cls := findClass_of_methodNamed B.named
  have hlocks := B.notSynchronized
  have CF : CallFix p m c cX6_within 3 s args wsX6_within RX6 := ⟨hx, hb, hml, hown, hts⟩
  have hz : zz (dC, dI) 18 a (wdM cI cZ a hh σ) s.heap s.heap [] := ⟨hP, va_S.rf⟩
  have hl := lv_entry [.int x1, .int x2, .int x3] (n := 3) (Nat.le_of_ble_eq_true rfl)
  have hen : entryFrame m args 3 = entryFrame m ([.int x1, .int x2, .int x3] : List Value).toArray 3 := by rw [hav]
  rw [hen, lg_entry_eq]
  generalize (lg_sl [.int x1, .int x2, .int x3] ++ List.replicate (3 - (lg_sl [.int x1, .int x2, .int x3]).length) Slot.unset).toArray = ls at hl ⊢
  have hl : lv_has ls 3 [(0, .int x1), (1, .int x2), (2, .int x3)] := hl
  have eR : (headSpec wsX6_within rmX6_within).room = rmX6_within := rfl
  rw [eR]
  have rt : ∀ (v : Int32) (t : St) (pc : Nat) (H : Heap) (locs : List Loc) (ls : Array Slot), decode cX6_within pc = .ok (.ireturn, 1) → some v = some r → zz (dC, dI) 18 a (wdM cI cZ a hh σ) s.heap H locs → (v = 0 ∨ v = 1) → W p l e rmX6_within s m args below meth c H locs 0 0 (MQ below (Qzi (dC, dI) 18 a (wdM cI cZ a hh σ) sz r) args s 0 0 (aN 18 a sz)) (F0 m pc ls [.int v]) := by
    intro v t pc H locs ls hd h hz hv
    cases h
    exact zzret hsz hx hb hr hlocks hv hz hd
  generalize (MQ below (Qzi (dC, dI) 18 a (wdM cI cZ a hh σ) sz r) args s 0 0 (aN 18 a sz)) = Q at rt ⊢
  unfold fX6_within at h
  refine lv_iload_n hx hb dX6_within_0 rfl (lv_at hl 0 rfl) ?_
  refine lv_iload_n hx hb dX6_within_1 rfl (lv_at hl 1 rfl) ?_
  refine lv_icmp_lt (tgt := 14) hx hb dX6_within_2 (by decide) (fun c1 => ?_) (fun c1 => ?_)
  · replace h := ite_t c1 h
    refine lv_iconst (v := (0 : Int32)) hx hb dX6_within_14 (by decide) ?_
    exact rt (0 : Int32) σ 15 _ _ _ dX6_within_15 h hz (Or.inl rfl)
  · replace h := ite_f c1 h
    refine lv_iload_n hx hb dX6_within_5 rfl (lv_at hl 0 rfl) ?_
    refine lv_iload_n hx hb dX6_within_6 rfl (lv_at hl 2 rfl) ?_
    refine lv_icmp_gt (tgt := 14) hx hb dX6_within_7 (by decide) (fun c2 => ?_) (fun c2 => ?_)
    · replace h := ite_t c2 h
      refine lv_iconst (v := (0 : Int32)) hx hb dX6_within_14 (by decide) ?_
      exact rt (0 : Int32) σ 15 _ _ _ dX6_within_15 h hz (Or.inl rfl)
    · replace h := ite_f c2 h
      refine lv_iconst (v := (1 : Int32)) hx hb dX6_within_10 (by decide) ?_
      refine lv_goto (tgt := 15) hx hb dX6_within_11 (by decide) ?_
      exact rt (1 : Int32) σ 15 _ _ _ dX6_within_15 h hz (Or.inr rfl)
def fX6_letter (σ : St) (x1 : Int32) : Option (Int32 × St) :=
  (bd1 (fX6_within σ x1 (32 : Int32) (126 : Int32)) fun r1 => (if r1 = 0 then (some ((-1002 : Int32), σ)) else ((if (σ 40 0) = (50 : Int32) then (some ((-1004 : Int32), σ)) else ((ck (¬ ((σ 40 0) < 0 ∨ 50 ≤ Int32.toNatClampNeg (σ 40 0))) <| some (((σ 40 0) + (1 : Int32)), (si (sa σ 1 (Int32.toNatClampNeg (σ 40 0)) x1) 40 ((σ 40 0) + (1 : Int32))))))))))
abbrev rmX6_letter : Room := { frames := 1, cells := 0, slots := 0, locals := 22 }
set_option maxHeartbeats 4000000 in
set_option maxRecDepth 100000 in
theorem KX6_letter {l : Launch} {dC : Nat → ClassId} {dI : Nat → Nat → Nat} {cI cZ : ClassId} {a : Nat → Nat} {hh : Int64} {σ : St} {x1 : Int32} {r : Int32} {σ2 : St} (hok : okA 18 a) (h : fX6_letter σ x1 = some (r, σ2)) (sz : Nat) : Met l yX6_letter wsX6_letter rmX6_letter (Pz (dC, dI) cI cZ (wdM cI cZ a hh σ) sz [.ref (a 0), .int x1]) (Qzi (dC, dI) 18 a (wdM cI cZ a hh σ2) sz r) 0 0 (aN 18 a sz) := by
  refine Met.ofW (cc := cX6_letter) (maxL := 2) (ret := (some .int)) (by decide) rfl ?_
  intro p e s m args below meth c s₁ B hml hv
  obtain ⟨hav, hsz, hP, hKK⟩ := hv
  have hx := B.exec
  have hb := B.bytes
  have hr := B.returns
  have hts := atoms_spec (ws := wsX6_letter) B.pre
  have hown : s.vm.findClass RX6 = some m.cls := findClass_of_methodNamed B.named
  have hlocks := B.notSynchronized
  have CF : CallFix p m c cX6_letter 2 s args wsX6_letter RX6 := ⟨hx, hb, hml, hown, hts⟩
  have hz : zz (dC, dI) 18 a (wdM cI cZ a hh σ) s.heap s.heap [] := ⟨hP, va_S.rf⟩
  have hl := lv_entry [.ref (a 0), .int x1] (n := 2) (Nat.le_of_ble_eq_true rfl)
  have hen : entryFrame m args 2 = entryFrame m ([.ref (a 0), .int x1] : List Value).toArray 2 := by rw [hav]
  rw [hen, lg_entry_eq]
  generalize (lg_sl [.ref (a 0), .int x1] ++ List.replicate (2 - (lg_sl [.ref (a 0), .int x1]).length) Slot.unset).toArray = ls at hl ⊢
  have hl : lv_has ls 2 [(0, .ref (a 0)), (1, .int x1)] := hl
  have eR : (headSpec wsX6_letter rmX6_letter).room = rmX6_letter := rfl
  rw [eR]
  have rt : ∀ (v : Int32) (t : St) (pc : Nat) (H : Heap) (locs : List Loc) (ls : Array Slot), decode cX6_letter pc = .ok (.ireturn, 1) → some (v, t) = some (r, σ2) → zz (dC, dI) 18 a (wdM cI cZ a hh t) s.heap H locs → W p l e rmX6_letter s m args below meth c H locs 0 0 (MQ below (Qzi (dC, dI) 18 a (wdM cI cZ a hh σ2) sz r) args s 0 0 (aN 18 a sz)) (F0 m pc ls [.int v]) := by
    intro v t pc H locs ls hd h hz
    cases h
    exact ziret hsz hx hb hr hlocks hz hd
  generalize (MQ below (Qzi (dC, dI) 18 a (wdM cI cZ a hh σ2) sz r) args s 0 0 (aN 18 a sz)) = Q at rt ⊢
  unfold fX6_letter at h
  refine lv_iload_n hx hb dX6_letter_0 rfl (lv_at hl 1 rfl) ?_
  refine lv_bipush (v := (32 : Int32)) hx hb dX6_letter_1 (by decide) ?_
  refine lv_bipush (v := (126 : Int32)) hx hb dX6_letter_3 (by decide) ?_
  obtain ⟨r1, e3, h⟩ := bd1_e h
  refine zcallSi (As := [.int x1, .int (32 : Int32), .int (126 : Int32)]) (rest := []) CF hKK (KX6_within (dC := dC) (dI := dI) (cI := cI) (cZ := cZ) (a := a) hok e3) (va_cwS 3 hts gX6_letter_X6_within rfl rfl rfl cdX6_within.2 ⟨Nat.le_of_ble_eq_true rfl, Nat.le_of_ble_eq_true rfl⟩) hz rfl hl.1 rfl (Nat.le_of_ble_eq_true rfl) dX6_letter_5 ⟨Nat.le_refl _, Nat.le_refl _⟩ (fun H locs hz => ?_)
  refine lv_if_ne (tgt := 15) hx hb dX6_letter_8 (by decide) (fun c4 => ?_) (fun c4 => ?_)
  · replace h := ite_f c4 h
    refine lv_aload_n hx hb dX6_letter_15 rfl (lv_at hl 0 rfl) ?_
    refine va_get (v := .int (σ 40 0)) hx hb hts inX6_letter_X6 hown hKK.1 hz.1 0 rfl rfl 0 (by decide) (hts _ (List.mem_of_getElem? (i := 1) rfl)) (fun _ h9 => h9) rfl dX6_letter_16 ?_
    refine lv_bipush (v := (50 : Int32)) hx hb dX6_letter_19 (by decide) ?_
    refine lv_icmp_ne (tgt := 28) hx hb dX6_letter_21 (by decide) (fun c5 => ?_) (fun c5 => ?_)
    · replace h := ite_f c5 h
      refine lv_aload_n hx hb dX6_letter_28 rfl (lv_at hl 0 rfl) ?_
      refine va_get (v := .ref (a 1)) hx hb hts inX6_letter_X6 hown hKK.1 hz.1 0 rfl rfl 1 (by decide) (hts _ (List.mem_of_getElem? (i := 2) rfl)) (fun _ h9 => h9) rfl dX6_letter_29 ?_
      refine lv_aload_n hx hb dX6_letter_32 rfl (lv_at hl 0 rfl) ?_
      refine va_get (v := .int (σ 40 0)) hx hb hts inX6_letter_X6 hown hKK.1 hz.1 0 rfl rfl 0 (by decide) (hts _ (List.mem_of_getElem? (i := 1) rfl)) (fun _ h9 => h9) rfl dX6_letter_33 ?_
      refine lv_iload_n hx hb dX6_letter_36 rfl (lv_at hl 1 rfl) ?_
      obtain ⟨c6, h⟩ := ck_e h
      refine ziast (f := σ 1) (w' := wdM cI cZ a hh (sa σ 1 (Int32.toNatClampNeg (σ 40 0)) x1)) hx hb hKK hok wkM hz 1 rfl c6 setMa_1 dX6_letter_37 (fun H locs hz => ?_)
      refine lv_aload_n hx hb dX6_letter_38 rfl (lv_at hl 0 rfl) ?_
      refine lv_dup hx hb dX6_letter_39 rfl ?_
      refine va_get (v := .int (σ 40 0)) hx hb hts inX6_letter_X6 hown hKK.1 hz.1 0 rfl rfl 0 (by decide) (hts _ (List.mem_of_getElem? (i := 1) rfl)) (fun _ h9 => h9) rfl dX6_letter_40 ?_
      refine lv_iconst (v := (1 : Int32)) hx hb dX6_letter_43 (by decide) ?_
      refine lv_iadd hx hb dX6_letter_44 ?_
      refine zput (ty := .int) (w' := wdM cI cZ a hh (si (sa σ 1 (Int32.toNatClampNeg (σ 40 0)) x1) 40 ((σ 40 0) + (1 : Int32)))) hx hb hts inX6_letter_X6 tyX6 tyX6_ok nmX6 hown hKK hok wkM hz 0 rfl rfl 0 (by decide) (hts _ (List.mem_of_getElem? (i := 1) rfl)) (fun _ h9 => h9) rfl rfl rfl rfl (Nat.le_of_ble_eq_true rfl) setMi_40 dX6_letter_45 (fun H locs hz => ?_)
      refine lv_aload_n hx hb dX6_letter_48 rfl (lv_at hl 0 rfl) ?_
      refine va_get (v := .int ((σ 40 0) + (1 : Int32))) hx hb hts inX6_letter_X6 hown hKK.1 hz.1 0 rfl rfl 0 (by decide) (hts _ (List.mem_of_getElem? (i := 1) rfl)) (fun _ h9 => h9) rfl dX6_letter_49 ?_
      exact rt ((σ 40 0) + (1 : Int32)) (si (sa σ 1 (Int32.toNatClampNeg (σ 40 0)) x1) 40 ((σ 40 0) + (1 : Int32))) 52 _ _ _ dX6_letter_52 h hz
    · replace h := ite_t c5 h
      refine lv_sipush (v := (-1004 : Int32)) hx hb dX6_letter_24 (by decide) ?_
      exact rt (-1004 : Int32) σ 27 _ _ _ dX6_letter_27 h hz
  · replace h := ite_t c4 h
    refine lv_sipush (v := (-1002 : Int32)) hx hb dX6_letter_11 (by decide) ?_
    exact rt (-1002 : Int32) σ 14 _ _ _ dX6_letter_14 h hz
def fX6_blank (σ : St)  : Option (Int32 × St) :=
  some ((σ 40 0), (si σ 40 (0 : Int32)))
abbrev rmX6_blank : Room := { frames := 0, cells := 0, slots := 0, locals := 0 }
set_option maxHeartbeats 4000000 in
set_option maxRecDepth 100000 in
theorem KX6_blank {l : Launch} {dC : Nat → ClassId} {dI : Nat → Nat → Nat} {cI cZ : ClassId} {a : Nat → Nat} {hh : Int64} {σ : St}  {r : Int32} {σ2 : St} (hok : okA 18 a) (h : fX6_blank σ  = some (r, σ2)) (sz : Nat) : Met l yX6_blank wsX6_blank rmX6_blank (Pz (dC, dI) cI cZ (wdM cI cZ a hh σ) sz [.ref (a 0)]) (Qzi (dC, dI) 18 a (wdM cI cZ a hh σ2) sz r) 0 0 (aN 18 a sz) := by
  refine Met.ofW (cc := cX6_blank) (maxL := 2) (ret := (some .int)) (by decide) rfl ?_
  intro p e s m args below meth c s₁ B hml hv
  obtain ⟨hav, hsz, hP, hKK⟩ := hv
  have hx := B.exec
  have hb := B.bytes
  have hr := B.returns
  have hts := atoms_spec (ws := wsX6_blank) B.pre
  have hown : s.vm.findClass RX6 = some m.cls := findClass_of_methodNamed B.named
  have hlocks := B.notSynchronized
  have CF : CallFix p m c cX6_blank 2 s args wsX6_blank RX6 := ⟨hx, hb, hml, hown, hts⟩
  have hz : zz (dC, dI) 18 a (wdM cI cZ a hh σ) s.heap s.heap [] := ⟨hP, va_S.rf⟩
  have hl := lv_entry [.ref (a 0)] (n := 2) (Nat.le_of_ble_eq_true rfl)
  have hen : entryFrame m args 2 = entryFrame m ([.ref (a 0)] : List Value).toArray 2 := by rw [hav]
  rw [hen, lg_entry_eq]
  generalize (lg_sl [.ref (a 0)] ++ List.replicate (2 - (lg_sl [.ref (a 0)]).length) Slot.unset).toArray = ls at hl ⊢
  have hl : lv_has ls 2 [(0, .ref (a 0))] := hl
  have eR : (headSpec wsX6_blank rmX6_blank).room = rmX6_blank := rfl
  rw [eR]
  have rt : ∀ (v : Int32) (t : St) (pc : Nat) (H : Heap) (locs : List Loc) (ls : Array Slot), decode cX6_blank pc = .ok (.ireturn, 1) → some (v, t) = some (r, σ2) → zz (dC, dI) 18 a (wdM cI cZ a hh t) s.heap H locs → W p l e rmX6_blank s m args below meth c H locs 0 0 (MQ below (Qzi (dC, dI) 18 a (wdM cI cZ a hh σ2) sz r) args s 0 0 (aN 18 a sz)) (F0 m pc ls [.int v]) := by
    intro v t pc H locs ls hd h hz
    cases h
    exact ziret hsz hx hb hr hlocks hz hd
  generalize (MQ below (Qzi (dC, dI) 18 a (wdM cI cZ a hh σ2) sz r) args s 0 0 (aN 18 a sz)) = Q at rt ⊢
  unfold fX6_blank at h
  refine lv_aload_n hx hb dX6_blank_0 rfl (lv_at hl 0 rfl) ?_
  refine va_get (v := .int (σ 40 0)) hx hb hts inX6_blank_X6 hown hKK.1 hz.1 0 rfl rfl 0 (by decide) (hts _ (List.mem_of_getElem? (i := 1) rfl)) (fun _ h9 => h9) rfl dX6_blank_1 ?_
  refine lv_istore_n (lv' := [(1, .int (σ 40 0)), (0, .ref (a 0))]) hx hb dX6_blank_4 rfl hl (by decide) rfl (fun ls hl => ?_)
  refine lv_aload_n hx hb dX6_blank_5 rfl (lv_at hl 1 rfl) ?_
  refine lv_iconst (v := (0 : Int32)) hx hb dX6_blank_6 (by decide) ?_
  refine zput (ty := .int) (w' := wdM cI cZ a hh (si σ 40 (0 : Int32))) hx hb hts inX6_blank_X6 tyX6 tyX6_ok nmX6 hown hKK hok wkM hz 0 rfl rfl 0 (by decide) (hts _ (List.mem_of_getElem? (i := 1) rfl)) (fun _ h9 => h9) rfl rfl rfl rfl (Nat.le_of_ble_eq_true rfl) setMi_40 dX6_blank_7 (fun H locs hz => ?_)
  refine lv_iload_n hx hb dX6_blank_10 rfl (lv_at hl 0 rfl) ?_
  exact rt (σ 40 0) (si σ 40 (0 : Int32)) 11 _ _ _ dX6_blank_11 h hz
def fX6_kindBy (σ : St) (x1 : Int32) : Option (Int32) :=
  (if x1 = (58 : Int32) then (some (3 : Int32)) else (if x1 = (97 : Int32) then (some (4 : Int32)) else (if x1 = (98 : Int32) then (some (2 : Int32)) else (if x1 = (108 : Int32) then (some (1 : Int32)) else (if x1 = (110 : Int32) then (some (0 : Int32)) else (if x1 = (114 : Int32) then (some (5 : Int32)) else some (-1 : Int32)))))))
abbrev rmX6_kindBy : Room := { frames := 0, cells := 0, slots := 0, locals := 0 }
set_option maxHeartbeats 4000000 in
set_option maxRecDepth 100000 in
theorem KX6_kindBy {l : Launch} {dC : Nat → ClassId} {dI : Nat → Nat → Nat} {cI cZ : ClassId} {a : Nat → Nat} {hh : Int64} {σ : St} {x1 : Int32} {r : Int32} (hok : okA 18 a) (h : fX6_kindBy σ x1 = some r) (sz : Nat) : Met l yX6_kindBy wsX6_kindBy rmX6_kindBy (Pz (dC, dI) cI cZ (wdM cI cZ a hh σ) sz [.int x1]) (Qzi (dC, dI) 18 a (wdM cI cZ a hh σ) sz r) 0 0 (aN 18 a sz) := by
  refine Met.ofW (cc := cX6_kindBy) (maxL := 1) (ret := (some .int)) (by decide) rfl ?_
  intro p e s m args below meth c s₁ B hml hv
  obtain ⟨hav, hsz, hP, hKK⟩ := hv
  have hx := B.exec
  have hb := B.bytes
  have hr := B.returns
  have hts := atoms_spec (ws := wsX6_kindBy) B.pre
  have hown : s.vm.findClass RX6 = some m.cls := findClass_of_methodNamed B.named
  have hlocks := B.notSynchronized
  have CF : CallFix p m c cX6_kindBy 1 s args wsX6_kindBy RX6 := ⟨hx, hb, hml, hown, hts⟩
  have hz : zz (dC, dI) 18 a (wdM cI cZ a hh σ) s.heap s.heap [] := ⟨hP, va_S.rf⟩
  have hl := lv_entry [.int x1] (n := 1) (Nat.le_of_ble_eq_true rfl)
  have hen : entryFrame m args 1 = entryFrame m ([.int x1] : List Value).toArray 1 := by rw [hav]
  rw [hen, lg_entry_eq]
  generalize (lg_sl [.int x1] ++ List.replicate (1 - (lg_sl [.int x1]).length) Slot.unset).toArray = ls at hl ⊢
  have hl : lv_has ls 1 [(0, .int x1)] := hl
  have eR : (headSpec wsX6_kindBy rmX6_kindBy).room = rmX6_kindBy := rfl
  rw [eR]
  have rt : ∀ (v : Int32) (t : St) (pc : Nat) (H : Heap) (locs : List Loc) (ls : Array Slot), decode cX6_kindBy pc = .ok (.ireturn, 1) → some v = some r → zz (dC, dI) 18 a (wdM cI cZ a hh σ) s.heap H locs → W p l e rmX6_kindBy s m args below meth c H locs 0 0 (MQ below (Qzi (dC, dI) 18 a (wdM cI cZ a hh σ) sz r) args s 0 0 (aN 18 a sz)) (F0 m pc ls [.int v]) := by
    intro v t pc H locs ls hd h hz
    cases h
    exact ziret hsz hx hb hr hlocks hz hd
  generalize (MQ below (Qzi (dC, dI) 18 a (wdM cI cZ a hh σ) sz r) args s 0 0 (aN 18 a sz)) = Q at rt ⊢
  unfold fX6_kindBy at h
  refine lv_iload_n hx hb dX6_kindBy_0 rfl (lv_at hl 0 rfl) ?_
  by_cases c1 : x1 = (58 : Int32)
  · replace h := ite_t c1 h
    refine lv_lookup (tgt := 66) (off := 65) hx hb dX6_kindBy_1 (by decide) (by rw [c1]; rfl) (by decide) ?_
    refine lv_iconst (v := (3 : Int32)) hx hb dX6_kindBy_66 (by decide) ?_
    exact rt (3 : Int32) σ 67 _ _ _ dX6_kindBy_67 h hz
  replace h := ite_f c1 h
  by_cases c2 : x1 = (97 : Int32)
  · replace h := ite_t c2 h
    refine lv_lookup (tgt := 68) (off := 67) hx hb dX6_kindBy_1 (by decide) (by rw [c2]; rfl) (by decide) ?_
    refine lv_iconst (v := (4 : Int32)) hx hb dX6_kindBy_68 (by decide) ?_
    exact rt (4 : Int32) σ 69 _ _ _ dX6_kindBy_69 h hz
  replace h := ite_f c2 h
  by_cases c3 : x1 = (98 : Int32)
  · replace h := ite_t c3 h
    refine lv_lookup (tgt := 64) (off := 63) hx hb dX6_kindBy_1 (by decide) (by rw [c3]; rfl) (by decide) ?_
    refine lv_iconst (v := (2 : Int32)) hx hb dX6_kindBy_64 (by decide) ?_
    exact rt (2 : Int32) σ 65 _ _ _ dX6_kindBy_65 h hz
  replace h := ite_f c3 h
  by_cases c4 : x1 = (108 : Int32)
  · replace h := ite_t c4 h
    refine lv_lookup (tgt := 62) (off := 61) hx hb dX6_kindBy_1 (by decide) (by rw [c4]; rfl) (by decide) ?_
    refine lv_iconst (v := (1 : Int32)) hx hb dX6_kindBy_62 (by decide) ?_
    exact rt (1 : Int32) σ 63 _ _ _ dX6_kindBy_63 h hz
  replace h := ite_f c4 h
  by_cases c5 : x1 = (110 : Int32)
  · replace h := ite_t c5 h
    refine lv_lookup (tgt := 60) (off := 59) hx hb dX6_kindBy_1 (by decide) (by rw [c5]; rfl) (by decide) ?_
    refine lv_iconst (v := (0 : Int32)) hx hb dX6_kindBy_60 (by decide) ?_
    exact rt (0 : Int32) σ 61 _ _ _ dX6_kindBy_61 h hz
  replace h := ite_f c5 h
  by_cases c6 : x1 = (114 : Int32)
  · replace h := ite_t c6 h
    refine lv_lookup (tgt := 70) (off := 69) hx hb dX6_kindBy_1 (by decide) (by rw [c6]; rfl) (by decide) ?_
    refine lv_iconst (v := (5 : Int32)) hx hb dX6_kindBy_70 (by decide) ?_
    exact rt (5 : Int32) σ 71 _ _ _ dX6_kindBy_71 h hz
  replace h := ite_f c6 h
  refine lv_lookup (tgt := 72) (off := 71) hx hb dX6_kindBy_1 (by decide) (by show Op.lookupswitch.offset [(58, 65), (97, 67), (98, 63), (108, 61), (110, 59), (114, 69)] 71 _ = _; rw [lv_osw c1 (a := 58) rfl, lv_osw c2 (a := 97) rfl, lv_osw c3 (a := 98) rfl, lv_osw c4 (a := 108) rfl, lv_osw c5 (a := 110) rfl, lv_osw c6 (a := 114) rfl]; rfl) (by decide) ?_
  refine lv_iconst (v := (-1 : Int32)) hx hb dX6_kindBy_72 (by decide) ?_
  exact rt (-1 : Int32) σ 73 _ _ _ dX6_kindBy_73 h hz
def fX6_keepItem (σ : St) (x1 : Int32) (x2 : Int32) : Option (St) :=
  (ck (¬ ((σ 44 0) < 0 ∨ 24 ≤ Int32.toNatClampNeg (σ 44 0))) <| (ck (¬ ((σ 44 0) < 0 ∨ 24 ≤ Int32.toNatClampNeg (σ 44 0))) <| some (si (si (sa (sa σ 5 (Int32.toNatClampNeg (σ 44 0)) x1) 6 (Int32.toNatClampNeg (σ 44 0)) x2) 44 ((σ 44 0) + (1 : Int32))) 45 (-1 : Int32))))
abbrev rmX6_keepItem : Room := { frames := 0, cells := 0, slots := 0, locals := 0 }
set_option maxHeartbeats 4000000 in
set_option maxRecDepth 100000 in
theorem KX6_keepItem {l : Launch} {dC : Nat → ClassId} {dI : Nat → Nat → Nat} {cI cZ : ClassId} {a : Nat → Nat} {hh : Int64} {σ : St} {x1 : Int32} {x2 : Int32} {σ2 : St} (hok : okA 18 a) (h : fX6_keepItem σ x1 x2 = some σ2) (sz : Nat) : Met l yX6_keepItem wsX6_keepItem rmX6_keepItem (Pz (dC, dI) cI cZ (wdM cI cZ a hh σ) sz [.ref (a 0), .int x1, .int x2]) (Qzv (dC, dI) 18 a (wdM cI cZ a hh σ2) sz) 0 0 (aN 18 a sz) := by
  refine Met.ofW (cc := cX6_keepItem) (maxL := 3) (ret := none) (by decide) rfl ?_
  intro p e s m args below meth c s₁ B hml hv
  obtain ⟨hav, hsz, hP, hKK⟩ := hv
  have hx := B.exec
  have hb := B.bytes
  have hr := B.returns
  have hts := atoms_spec (ws := wsX6_keepItem) B.pre
  have hown : s.vm.findClass RX6 = some m.cls := findClass_of_methodNamed B.named
  have hlocks := B.notSynchronized
  have CF : CallFix p m c cX6_keepItem 3 s args wsX6_keepItem RX6 := ⟨hx, hb, hml, hown, hts⟩
  have hz : zz (dC, dI) 18 a (wdM cI cZ a hh σ) s.heap s.heap [] := ⟨hP, va_S.rf⟩
  have hl := lv_entry [.ref (a 0), .int x1, .int x2] (n := 3) (Nat.le_of_ble_eq_true rfl)
  have hen : entryFrame m args 3 = entryFrame m ([.ref (a 0), .int x1, .int x2] : List Value).toArray 3 := by rw [hav]
  rw [hen, lg_entry_eq]
  generalize (lg_sl [.ref (a 0), .int x1, .int x2] ++ List.replicate (3 - (lg_sl [.ref (a 0), .int x1, .int x2]).length) Slot.unset).toArray = ls at hl ⊢
  have hl : lv_has ls 3 [(0, .ref (a 0)), (1, .int x1), (2, .int x2)] := hl
  have eR : (headSpec wsX6_keepItem rmX6_keepItem).room = rmX6_keepItem := rfl
  rw [eR]
  have rt : ∀ (t : St) (pc : Nat) (H : Heap) (locs : List Loc) (ls : Array Slot), decode cX6_keepItem pc = .ok (.return_, 1) → some t = some σ2 → zz (dC, dI) 18 a (wdM cI cZ a hh t) s.heap H locs → W p l e rmX6_keepItem s m args below meth c H locs 0 0 (MQ below (Qzv (dC, dI) 18 a (wdM cI cZ a hh σ2) sz) args s 0 0 (aN 18 a sz)) (F0 m pc ls []) := by
    intro t pc H locs ls hd h hz
    cases h
    exact zvret hsz hx hb hr hlocks hz hd
  generalize (MQ below (Qzv (dC, dI) 18 a (wdM cI cZ a hh σ2) sz) args s 0 0 (aN 18 a sz)) = Q at rt ⊢
  unfold fX6_keepItem at h
  refine lv_aload_n hx hb dX6_keepItem_0 rfl (lv_at hl 0 rfl) ?_
  refine va_get (v := .ref (a 5)) hx hb hts inX6_keepItem_X6 hown hKK.1 hz.1 0 rfl rfl 9 (by decide) (hts _ (List.mem_of_getElem? (i := 1) rfl)) (fun _ h9 => h9) rfl dX6_keepItem_1 ?_
  refine lv_aload_n hx hb dX6_keepItem_4 rfl (lv_at hl 0 rfl) ?_
  refine va_get (v := .int (σ 44 0)) hx hb hts inX6_keepItem_X6 hown hKK.1 hz.1 0 rfl rfl 8 (by decide) (hts _ (List.mem_of_getElem? (i := 2) rfl)) (fun _ h9 => h9) rfl dX6_keepItem_5 ?_
  refine lv_iload_n hx hb dX6_keepItem_8 rfl (lv_at hl 1 rfl) ?_
  obtain ⟨c1, h⟩ := ck_e h
  refine ziast (f := σ 5) (w' := wdM cI cZ a hh (sa σ 5 (Int32.toNatClampNeg (σ 44 0)) x1)) hx hb hKK hok wkM hz 5 rfl c1 setMa_5 dX6_keepItem_9 (fun H locs hz => ?_)
  refine lv_aload_n hx hb dX6_keepItem_10 rfl (lv_at hl 0 rfl) ?_
  refine va_get (v := .ref (a 6)) hx hb hts inX6_keepItem_X6 hown hKK.1 hz.1 0 rfl rfl 10 (by decide) (hts _ (List.mem_of_getElem? (i := 3) rfl)) (fun _ h9 => h9) rfl dX6_keepItem_11 ?_
  refine lv_aload_n hx hb dX6_keepItem_14 rfl (lv_at hl 0 rfl) ?_
  refine va_get (v := .int (σ 44 0)) hx hb hts inX6_keepItem_X6 hown hKK.1 hz.1 0 rfl rfl 8 (by decide) (hts _ (List.mem_of_getElem? (i := 2) rfl)) (fun _ h9 => h9) rfl dX6_keepItem_15 ?_
  refine lv_iload_n hx hb dX6_keepItem_18 rfl (lv_at hl 2 rfl) ?_
  obtain ⟨c2, h⟩ := ck_e h
  refine ziast (f := (sa σ 5 (Int32.toNatClampNeg (σ 44 0)) x1) 6) (w' := wdM cI cZ a hh (sa (sa σ 5 (Int32.toNatClampNeg (σ 44 0)) x1) 6 (Int32.toNatClampNeg (σ 44 0)) x2)) hx hb hKK hok wkM hz 6 rfl c2 setMa_6 dX6_keepItem_19 (fun H locs hz => ?_)
  refine lv_aload_n hx hb dX6_keepItem_20 rfl (lv_at hl 0 rfl) ?_
  refine lv_dup hx hb dX6_keepItem_21 rfl ?_
  refine va_get (v := .int (σ 44 0)) hx hb hts inX6_keepItem_X6 hown hKK.1 hz.1 0 rfl rfl 8 (by decide) (hts _ (List.mem_of_getElem? (i := 2) rfl)) (fun _ h9 => h9) rfl dX6_keepItem_22 ?_
  refine lv_iconst (v := (1 : Int32)) hx hb dX6_keepItem_25 (by decide) ?_
  refine lv_iadd hx hb dX6_keepItem_26 ?_
  refine zput (ty := .int) (w' := wdM cI cZ a hh (si (sa (sa σ 5 (Int32.toNatClampNeg (σ 44 0)) x1) 6 (Int32.toNatClampNeg (σ 44 0)) x2) 44 ((σ 44 0) + (1 : Int32)))) hx hb hts inX6_keepItem_X6 tyX6 tyX6_ok nmX6 hown hKK hok wkM hz 0 rfl rfl 8 (by decide) (hts _ (List.mem_of_getElem? (i := 2) rfl)) (fun _ h9 => h9) rfl rfl rfl rfl (Nat.le_of_ble_eq_true rfl) setMi_44 dX6_keepItem_27 (fun H locs hz => ?_)
  refine lv_aload_n hx hb dX6_keepItem_30 rfl (lv_at hl 0 rfl) ?_
  refine lv_iconst (v := (-1 : Int32)) hx hb dX6_keepItem_31 (by decide) ?_
  refine zput (ty := .int) (w' := wdM cI cZ a hh (si (si (sa (sa σ 5 (Int32.toNatClampNeg (σ 44 0)) x1) 6 (Int32.toNatClampNeg (σ 44 0)) x2) 44 ((σ 44 0) + (1 : Int32))) 45 (-1 : Int32))) hx hb hts inX6_keepItem_X6 tyX6 tyX6_ok nmX6 hown hKK hok wkM hz 0 rfl rfl 11 (by decide) (hts _ (List.mem_of_getElem? (i := 4) rfl)) (fun _ h9 => h9) rfl rfl rfl rfl (Nat.le_of_ble_eq_true rfl) setMi_45 dX6_keepItem_32 (fun H locs hz => ?_)
  exact rt (si (si (sa (sa σ 5 (Int32.toNatClampNeg (σ 44 0)) x1) 6 (Int32.toNatClampNeg (σ 44 0)) x2) 44 ((σ 44 0) + (1 : Int32))) 45 (-1 : Int32)) 35 _ _ _ dX6_keepItem_35 h hz
def fX6_takesFirst (σ : St) (x1 : Int32) : Option (Int32 × St) :=
  (bd1 (fX6_kindBy σ x1) fun r1 => (if r1 = (-1 : Int32) then (some ((0 : Int32), σ)) else ((if (σ 44 0) = (24 : Int32) then (some ((0 : Int32), σ)) else ((if r1 = (5 : Int32) then ((bd1 (fX6_keepItem σ (5 : Int32) (0 : Int32)) fun s8 => some ((1 : Int32), s8))) else (some ((1 : Int32), (si σ 45 r1)))))))))
abbrev rmX6_takesFirst : Room := { frames := 1, cells := 0, slots := 0, locals := 22 }
set_option maxHeartbeats 4000000 in
set_option maxRecDepth 100000 in
theorem KX6_takesFirst {l : Launch} {dC : Nat → ClassId} {dI : Nat → Nat → Nat} {cI cZ : ClassId} {a : Nat → Nat} {hh : Int64} {σ : St} {x1 : Int32} {r : Int32} {σ2 : St} (hok : okA 18 a) (h : fX6_takesFirst σ x1 = some (r, σ2)) (sz : Nat) : Met l yX6_takesFirst wsX6_takesFirst rmX6_takesFirst (Pz (dC, dI) cI cZ (wdM cI cZ a hh σ) sz [.ref (a 0), .int x1]) (Qzi (dC, dI) 18 a (wdM cI cZ a hh σ2) sz r) 0 0 (aN 18 a sz) := by
  refine Met.ofW (cc := cX6_takesFirst) (maxL := 3) (ret := (some .boolean)) (by decide) rfl ?_
  intro p e s m args below meth c s₁ B hml hv
  obtain ⟨hav, hsz, hP, hKK⟩ := hv
  have hx := B.exec
  have hb := B.bytes
  have hr := B.returns
  have hts := atoms_spec (ws := wsX6_takesFirst) B.pre
  have hown : s.vm.findClass RX6 = some m.cls := findClass_of_methodNamed B.named
  have hlocks := B.notSynchronized
  have CF : CallFix p m c cX6_takesFirst 3 s args wsX6_takesFirst RX6 := ⟨hx, hb, hml, hown, hts⟩
  have hz : zz (dC, dI) 18 a (wdM cI cZ a hh σ) s.heap s.heap [] := ⟨hP, va_S.rf⟩
  have hl := lv_entry [.ref (a 0), .int x1] (n := 3) (Nat.le_of_ble_eq_true rfl)
  have hen : entryFrame m args 3 = entryFrame m ([.ref (a 0), .int x1] : List Value).toArray 3 := by rw [hav]
  rw [hen, lg_entry_eq]
  generalize (lg_sl [.ref (a 0), .int x1] ++ List.replicate (3 - (lg_sl [.ref (a 0), .int x1]).length) Slot.unset).toArray = ls at hl ⊢
  have hl : lv_has ls 3 [(0, .ref (a 0)), (1, .int x1)] := hl
  have eR : (headSpec wsX6_takesFirst rmX6_takesFirst).room = rmX6_takesFirst := rfl
  rw [eR]
  have rt : ∀ (v : Int32) (t : St) (pc : Nat) (H : Heap) (locs : List Loc) (ls : Array Slot), decode cX6_takesFirst pc = .ok (.ireturn, 1) → some (v, t) = some (r, σ2) → zz (dC, dI) 18 a (wdM cI cZ a hh t) s.heap H locs → (v = 0 ∨ v = 1) → W p l e rmX6_takesFirst s m args below meth c H locs 0 0 (MQ below (Qzi (dC, dI) 18 a (wdM cI cZ a hh σ2) sz r) args s 0 0 (aN 18 a sz)) (F0 m pc ls [.int v]) := by
    intro v t pc H locs ls hd h hz hv
    cases h
    exact zzret hsz hx hb hr hlocks hv hz hd
  generalize (MQ below (Qzi (dC, dI) 18 a (wdM cI cZ a hh σ2) sz r) args s 0 0 (aN 18 a sz)) = Q at rt ⊢
  unfold fX6_takesFirst at h
  refine lv_iload_n hx hb dX6_takesFirst_0 rfl (lv_at hl 1 rfl) ?_
  obtain ⟨r1, e3, h⟩ := bd1_e h
  refine zcallSi (As := [.int x1]) (rest := []) CF hKK (KX6_kindBy (dC := dC) (dI := dI) (cI := cI) (cZ := cZ) (a := a) hok e3) (va_cwS 1 hts gX6_takesFirst_X6_kindBy rfl rfl rfl cdX6_kindBy.2 ⟨Nat.le_of_ble_eq_true rfl, Nat.le_of_ble_eq_true rfl⟩) hz rfl hl.1 rfl (Nat.le_of_ble_eq_true rfl) dX6_takesFirst_1 ⟨Nat.le_refl _, Nat.le_refl _⟩ (fun H locs hz => ?_)
  refine lv_istore_n (lv' := [(2, .int r1), (0, .ref (a 0)), (1, .int x1)]) hx hb dX6_takesFirst_4 rfl hl (by decide) rfl (fun ls hl => ?_)
  refine lv_iload_n hx hb dX6_takesFirst_5 rfl (lv_at hl 0 rfl) ?_
  refine lv_iconst (v := (-1 : Int32)) hx hb dX6_takesFirst_6 (by decide) ?_
  refine lv_icmp_eq (tgt := 19) hx hb dX6_takesFirst_7 (by decide) (fun c4 => ?_) (fun c4 => ?_)
  · replace h := ite_t c4 h
    refine lv_iconst (v := (0 : Int32)) hx hb dX6_takesFirst_19 (by decide) ?_
    exact rt (0 : Int32) σ 20 _ _ _ dX6_takesFirst_20 h hz (Or.inl rfl)
  · replace h := ite_f c4 h
    refine lv_aload_n hx hb dX6_takesFirst_10 rfl (lv_at hl 1 rfl) ?_
    refine va_get (v := .int (σ 44 0)) hx hb hts inX6_takesFirst_X6 hown hKK.1 hz.1 0 rfl rfl 8 (by decide) (hts _ (List.mem_of_getElem? (i := 1) rfl)) (fun _ h9 => h9) rfl dX6_takesFirst_11 ?_
    refine lv_bipush (v := (24 : Int32)) hx hb dX6_takesFirst_14 (by decide) ?_
    refine lv_icmp_ne (tgt := 21) hx hb dX6_takesFirst_16 (by decide) (fun c5 => ?_) (fun c5 => ?_)
    · replace h := ite_f c5 h
      refine lv_iload_n hx hb dX6_takesFirst_21 rfl (lv_at hl 0 rfl) ?_
      refine lv_iconst (v := (5 : Int32)) hx hb dX6_takesFirst_22 (by decide) ?_
      refine lv_icmp_ne (tgt := 35) hx hb dX6_takesFirst_23 (by decide) (fun c6 => ?_) (fun c6 => ?_)
      · replace h := ite_f c6 h
        refine lv_aload_n hx hb dX6_takesFirst_35 rfl (lv_at hl 1 rfl) ?_
        refine lv_iload_n hx hb dX6_takesFirst_36 rfl (lv_at hl 0 rfl) ?_
        refine zput (ty := .int) (w' := wdM cI cZ a hh (si σ 45 r1)) hx hb hts inX6_takesFirst_X6 tyX6 tyX6_ok nmX6 hown hKK hok wkM hz 0 rfl rfl 11 (by decide) (hts _ (List.mem_of_getElem? (i := 2) rfl)) (fun _ h9 => h9) rfl rfl rfl rfl (Nat.le_of_ble_eq_true rfl) setMi_45 dX6_takesFirst_37 (fun H locs hz => ?_)
        refine lv_iconst (v := (1 : Int32)) hx hb dX6_takesFirst_40 (by decide) ?_
        exact rt (1 : Int32) (si σ 45 r1) 41 _ _ _ dX6_takesFirst_41 h hz (Or.inr rfl)
      · replace h := ite_t c6 h
        refine lv_aload_n hx hb dX6_takesFirst_26 rfl (lv_at hl 1 rfl) ?_
        refine lv_iconst (v := (5 : Int32)) hx hb dX6_takesFirst_27 (by decide) ?_
        refine lv_iconst (v := (0 : Int32)) hx hb dX6_takesFirst_28 (by decide) ?_
        obtain ⟨s8, e9, h⟩ := bd1_e h
        refine zcallVv (As := [.int (5 : Int32), .int (0 : Int32)]) (rest := []) CF hKK (KX6_keepItem (dC := dC) (dI := dI) (cI := cI) (cZ := cZ) (a := a) hok e9) (cwV 2 hts gX6_takesFirst_X6_keepItem rfl rfl rfl cdX6_keepItem ⟨Nat.le_of_ble_eq_true rfl, Nat.le_of_ble_eq_true rfl⟩) 0 6 rfl rfl hz rfl hl.1 rfl (Nat.le_of_ble_eq_true rfl) dX6_takesFirst_29 ⟨Nat.le_refl _, Nat.le_refl _⟩ (fun H locs hz => ?_)
        refine lv_goto (tgt := 40) hx hb dX6_takesFirst_32 (by decide) ?_
        refine lv_iconst (v := (1 : Int32)) hx hb dX6_takesFirst_40 (by decide) ?_
        exact rt (1 : Int32) s8 41 _ _ _ dX6_takesFirst_41 h hz (Or.inr rfl)
    · replace h := ite_t c5 h
      refine lv_iconst (v := (0 : Int32)) hx hb dX6_takesFirst_19 (by decide) ?_
      exact rt (0 : Int32) σ 20 _ _ _ dX6_takesFirst_20 h hz (Or.inl rfl)
def fX6_takesLetter_b81  (σ : St) (y2 : Int32) (t0 : Int32) (t1 : Int32) : Option (Int32 × St) :=
  (bd1 (fX6_keepItem (si σ 47 (t1 ||| t0)) (σ 45 0) y2) fun s9 => some ((1 : Int32), s9))
def fX6_takesLetter_b57  (σ : St) (y2 : Int32) (t0 : Int32) (t1 : Int32) : Option (Int32 × St) :=
  (if (σ 45 0) = (2 : Int32) then (fX6_takesLetter_b81  (si σ 46 (t1 ||| t0)) y2 ((1 : Int32) <<< (y2 &&& 31)) (σ 47 0)) else (fX6_takesLetter_b81  (si σ 46 (t1 ||| t0)) y2 (0 : Int32) (σ 47 0)))
def fX6_takesLetter_b37  (σ : St) (y2 : Int32) : Option (Int32 × St) :=
  (if (σ 45 0) = (3 : Int32) then (fX6_takesLetter_b57  σ y2 ((1 : Int32) <<< (y2 &&& 31)) (σ 46 0)) else (fX6_takesLetter_b57  σ y2 (0 : Int32) (σ 46 0)))
def fX6_takesLetter (σ : St) (x1 : Int32) : Option (Int32 × St) :=
  (bd1 (fX6_within σ (x1 - (65 : Int32)) (0 : Int32) (7 : Int32)) fun r1 => (if r1 = 0 then (some ((0 : Int32), σ)) else ((if (σ 45 0) = (3 : Int32) then ((if (((σ 46 0) >>> ((x1 - (65 : Int32)) &&& 31)) &&& (1 : Int32)) = (1 : Int32) then (some ((0 : Int32), σ)) else (fX6_takesLetter_b37  σ (x1 - (65 : Int32))))) else (fX6_takesLetter_b37  σ (x1 - (65 : Int32)))))))
abbrev rmX6_takesLetter : Room := { frames := 1, cells := 0, slots := 0, locals := 22 }
set_option maxHeartbeats 4000000 in
set_option maxRecDepth 100000 in
theorem KX6_takesLetter {l : Launch} {dC : Nat → ClassId} {dI : Nat → Nat → Nat} {cI cZ : ClassId} {a : Nat → Nat} {hh : Int64} {σ : St} {x1 : Int32} {r : Int32} {σ2 : St} (hok : okA 18 a) (h : fX6_takesLetter σ x1 = some (r, σ2)) (sz : Nat) : Met l yX6_takesLetter wsX6_takesLetter rmX6_takesLetter (Pz (dC, dI) cI cZ (wdM cI cZ a hh σ) sz [.ref (a 0), .int x1]) (Qzi (dC, dI) 18 a (wdM cI cZ a hh σ2) sz r) 0 0 (aN 18 a sz) := by
  refine Met.ofW (cc := cX6_takesLetter) (maxL := 3) (ret := (some .boolean)) (by decide) rfl ?_
  intro p e s m args below meth c s₁ B hml hv
  obtain ⟨hav, hsz, hP, hKK⟩ := hv
  have hx := B.exec
  have hb := B.bytes
  have hr := B.returns
  have hts := atoms_spec (ws := wsX6_takesLetter) B.pre
  have hown : s.vm.findClass RX6 = some m.cls := findClass_of_methodNamed B.named
  have hlocks := B.notSynchronized
  have CF : CallFix p m c cX6_takesLetter 3 s args wsX6_takesLetter RX6 := ⟨hx, hb, hml, hown, hts⟩
  have hz : zz (dC, dI) 18 a (wdM cI cZ a hh σ) s.heap s.heap [] := ⟨hP, va_S.rf⟩
  have hl := lv_entry [.ref (a 0), .int x1] (n := 3) (Nat.le_of_ble_eq_true rfl)
  have hen : entryFrame m args 3 = entryFrame m ([.ref (a 0), .int x1] : List Value).toArray 3 := by rw [hav]
  rw [hen, lg_entry_eq]
  generalize (lg_sl [.ref (a 0), .int x1] ++ List.replicate (3 - (lg_sl [.ref (a 0), .int x1]).length) Slot.unset).toArray = ls at hl ⊢
  have hl : lv_has ls 3 [(0, .ref (a 0)), (1, .int x1)] := hl
  have eR : (headSpec wsX6_takesLetter rmX6_takesLetter).room = rmX6_takesLetter := rfl
  rw [eR]
  have rt : ∀ (v : Int32) (t : St) (pc : Nat) (H : Heap) (locs : List Loc) (ls : Array Slot), decode cX6_takesLetter pc = .ok (.ireturn, 1) → some (v, t) = some (r, σ2) → zz (dC, dI) 18 a (wdM cI cZ a hh t) s.heap H locs → (v = 0 ∨ v = 1) → W p l e rmX6_takesLetter s m args below meth c H locs 0 0 (MQ below (Qzi (dC, dI) 18 a (wdM cI cZ a hh σ2) sz r) args s 0 0 (aN 18 a sz)) (F0 m pc ls [.int v]) := by
    intro v t pc H locs ls hd h hz hv
    cases h
    exact zzret hsz hx hb hr hlocks hv hz hd
  generalize (MQ below (Qzi (dC, dI) 18 a (wdM cI cZ a hh σ2) sz r) args s 0 0 (aN 18 a sz)) = Q at rt ⊢
  have b81 : ∀  (σ : St) (y2 : Int32) (t0 : Int32) (t1 : Int32) (H : Heap) (locs : List Loc) (ls : Array Slot), fX6_takesLetter_b81  σ y2 t0 t1 = some (r, σ2) → zz (dC, dI) 18 a (wdM cI cZ a hh σ) s.heap H locs → lv_has ls 3 [(0, .ref (a 0)), (2, .int y2)] → W p l e rmX6_takesLetter s m args below meth c H locs 0 0 Q (F0 m 81 ls [.int t0, .int t1, .ref (a 0)]) := by
    intro  σ y2 t0 t1 H locs ls h hz hl
    unfold fX6_takesLetter_b81 at h
    refine lv_ior hx hb dX6_takesLetter_81 ?_
    refine zput (ty := .int) (w' := wdM cI cZ a hh (si σ 47 (t1 ||| t0))) hx hb hts inX6_takesLetter_X6 tyX6 tyX6_ok nmX6 hown hKK hok wkM hz 0 rfl rfl 13 (by decide) (hts _ (List.mem_of_getElem? (i := 3) rfl)) (fun _ h9 => h9) rfl rfl rfl rfl (Nat.le_of_ble_eq_true rfl) setMi_47 dX6_takesLetter_82 (fun H locs hz => ?_)
    refine lv_aload_n hx hb dX6_takesLetter_85 rfl (lv_at hl 0 rfl) ?_
    refine lv_aload_n hx hb dX6_takesLetter_86 rfl (lv_at hl 0 rfl) ?_
    refine va_get (v := .int (σ 45 0)) hx hb hts inX6_takesLetter_X6 hown hKK.1 hz.1 0 rfl rfl 11 (by decide) (hts _ (List.mem_of_getElem? (i := 1) rfl)) (fun _ h9 => h9) rfl dX6_takesLetter_87 ?_
    refine lv_iload_n hx hb dX6_takesLetter_90 rfl (lv_at hl 1 rfl) ?_
    obtain ⟨s9, e10, h⟩ := bd1_e h
    refine zcallVv (As := [.int (σ 45 0), .int y2]) (rest := []) CF hKK (KX6_keepItem (dC := dC) (dI := dI) (cI := cI) (cZ := cZ) (a := a) hok e10) (cwV 2 hts gX6_takesLetter_X6_keepItem rfl rfl rfl cdX6_keepItem ⟨Nat.le_of_ble_eq_true rfl, Nat.le_of_ble_eq_true rfl⟩) 0 6 rfl rfl hz rfl hl.1 rfl (Nat.le_of_ble_eq_true rfl) dX6_takesLetter_91 ⟨Nat.le_refl _, Nat.le_refl _⟩ (fun H locs hz => ?_)
    refine lv_iconst (v := (1 : Int32)) hx hb dX6_takesLetter_94 (by decide) ?_
    exact rt (1 : Int32) s9 95 _ _ _ dX6_takesLetter_95 h hz (Or.inr rfl)
  have b57 : ∀  (σ : St) (y2 : Int32) (t0 : Int32) (t1 : Int32) (H : Heap) (locs : List Loc) (ls : Array Slot), fX6_takesLetter_b57  σ y2 t0 t1 = some (r, σ2) → zz (dC, dI) 18 a (wdM cI cZ a hh σ) s.heap H locs → lv_has ls 3 [(0, .ref (a 0)), (2, .int y2)] → W p l e rmX6_takesLetter s m args below meth c H locs 0 0 Q (F0 m 57 ls [.int t0, .int t1, .ref (a 0)]) := by
    intro  σ y2 t0 t1 H locs ls h hz hl
    unfold fX6_takesLetter_b57 at h
    refine lv_ior hx hb dX6_takesLetter_57 ?_
    refine zput (ty := .int) (w' := wdM cI cZ a hh (si σ 46 (t1 ||| t0))) hx hb hts inX6_takesLetter_X6 tyX6 tyX6_ok nmX6 hown hKK hok wkM hz 0 rfl rfl 12 (by decide) (hts _ (List.mem_of_getElem? (i := 2) rfl)) (fun _ h9 => h9) rfl rfl rfl rfl (Nat.le_of_ble_eq_true rfl) setMi_46 dX6_takesLetter_58 (fun H locs hz => ?_)
    refine lv_aload_n hx hb dX6_takesLetter_61 rfl (lv_at hl 0 rfl) ?_
    refine lv_dup hx hb dX6_takesLetter_62 rfl ?_
    refine va_get (v := .int (σ 47 0)) hx hb hts inX6_takesLetter_X6 hown hKK.1 hz.1 0 rfl rfl 13 (by decide) (hts _ (List.mem_of_getElem? (i := 3) rfl)) (fun _ h9 => h9) rfl dX6_takesLetter_63 ?_
    refine lv_aload_n hx hb dX6_takesLetter_66 rfl (lv_at hl 0 rfl) ?_
    refine va_get (v := .int (σ 45 0)) hx hb hts inX6_takesLetter_X6 hown hKK.1 hz.1 0 rfl rfl 11 (by decide) (hts _ (List.mem_of_getElem? (i := 1) rfl)) (fun _ h9 => h9) rfl dX6_takesLetter_67 ?_
    refine lv_iconst (v := (2 : Int32)) hx hb dX6_takesLetter_70 (by decide) ?_
    refine lv_icmp_ne (tgt := 80) hx hb dX6_takesLetter_71 (by decide) (fun c7 => ?_) (fun c7 => ?_)
    · replace h := ite_f c7 h
      refine lv_iconst (v := (0 : Int32)) hx hb dX6_takesLetter_80 (by decide) ?_
      exact b81  (si σ 46 (t1 ||| t0)) y2 (0 : Int32) (σ 47 0) _ _ _ h hz (lv_sub hl [0, 1] rfl)
    · replace h := ite_t c7 h
      refine lv_iconst (v := (1 : Int32)) hx hb dX6_takesLetter_74 (by decide) ?_
      refine lv_iload_n hx hb dX6_takesLetter_75 rfl (lv_at hl 1 rfl) ?_
      refine lv_ishl hx hb dX6_takesLetter_76 ?_
      refine lv_goto (tgt := 81) hx hb dX6_takesLetter_77 (by decide) ?_
      exact b81  (si σ 46 (t1 ||| t0)) y2 ((1 : Int32) <<< (y2 &&& 31)) (σ 47 0) _ _ _ h hz (lv_sub hl [0, 1] rfl)
  have b37 : ∀  (σ : St) (y2 : Int32) (H : Heap) (locs : List Loc) (ls : Array Slot), fX6_takesLetter_b37  σ y2 = some (r, σ2) → zz (dC, dI) 18 a (wdM cI cZ a hh σ) s.heap H locs → lv_has ls 3 [(0, .ref (a 0)), (2, .int y2)] → W p l e rmX6_takesLetter s m args below meth c H locs 0 0 Q (F0 m 37 ls []) := by
    intro  σ y2 H locs ls h hz hl
    unfold fX6_takesLetter_b37 at h
    refine lv_aload_n hx hb dX6_takesLetter_37 rfl (lv_at hl 0 rfl) ?_
    refine lv_dup hx hb dX6_takesLetter_38 rfl ?_
    refine va_get (v := .int (σ 46 0)) hx hb hts inX6_takesLetter_X6 hown hKK.1 hz.1 0 rfl rfl 12 (by decide) (hts _ (List.mem_of_getElem? (i := 2) rfl)) (fun _ h9 => h9) rfl dX6_takesLetter_39 ?_
    refine lv_aload_n hx hb dX6_takesLetter_42 rfl (lv_at hl 0 rfl) ?_
    refine va_get (v := .int (σ 45 0)) hx hb hts inX6_takesLetter_X6 hown hKK.1 hz.1 0 rfl rfl 11 (by decide) (hts _ (List.mem_of_getElem? (i := 1) rfl)) (fun _ h9 => h9) rfl dX6_takesLetter_43 ?_
    refine lv_iconst (v := (3 : Int32)) hx hb dX6_takesLetter_46 (by decide) ?_
    refine lv_icmp_ne (tgt := 56) hx hb dX6_takesLetter_47 (by decide) (fun c6 => ?_) (fun c6 => ?_)
    · replace h := ite_f c6 h
      refine lv_iconst (v := (0 : Int32)) hx hb dX6_takesLetter_56 (by decide) ?_
      exact b57  σ y2 (0 : Int32) (σ 46 0) _ _ _ h hz (lv_sub hl [0, 1] rfl)
    · replace h := ite_t c6 h
      refine lv_iconst (v := (1 : Int32)) hx hb dX6_takesLetter_50 (by decide) ?_
      refine lv_iload_n hx hb dX6_takesLetter_51 rfl (lv_at hl 1 rfl) ?_
      refine lv_ishl hx hb dX6_takesLetter_52 ?_
      refine lv_goto (tgt := 57) hx hb dX6_takesLetter_53 (by decide) ?_
      exact b57  σ y2 ((1 : Int32) <<< (y2 &&& 31)) (σ 46 0) _ _ _ h hz (lv_sub hl [0, 1] rfl)
  unfold fX6_takesLetter at h
  refine lv_iload_n hx hb dX6_takesLetter_0 rfl (lv_at hl 1 rfl) ?_
  refine lv_bipush (v := (65 : Int32)) hx hb dX6_takesLetter_1 (by decide) ?_
  refine lv_isub hx hb dX6_takesLetter_3 ?_
  refine lv_istore_n (lv' := [(2, .int (x1 - (65 : Int32))), (0, .ref (a 0)), (1, .int x1)]) hx hb dX6_takesLetter_4 rfl hl (by decide) rfl (fun ls hl => ?_)
  refine lv_iload_n hx hb dX6_takesLetter_5 rfl (lv_at hl 0 rfl) ?_
  refine lv_iconst (v := (0 : Int32)) hx hb dX6_takesLetter_6 (by decide) ?_
  refine lv_bipush (v := (7 : Int32)) hx hb dX6_takesLetter_7 (by decide) ?_
  obtain ⟨r1, e3, h⟩ := bd1_e h
  refine zcallSi (As := [.int (x1 - (65 : Int32)), .int (0 : Int32), .int (7 : Int32)]) (rest := []) CF hKK (KX6_within (dC := dC) (dI := dI) (cI := cI) (cZ := cZ) (a := a) hok e3) (va_cwS 3 hts gX6_takesLetter_X6_within rfl rfl rfl cdX6_within.2 ⟨Nat.le_of_ble_eq_true rfl, Nat.le_of_ble_eq_true rfl⟩) hz rfl hl.1 rfl (Nat.le_of_ble_eq_true rfl) dX6_takesLetter_9 ⟨Nat.le_refl _, Nat.le_refl _⟩ (fun H locs hz => ?_)
  refine lv_if_eq (tgt := 35) hx hb dX6_takesLetter_12 (by decide) (fun c4 => ?_) (fun c4 => ?_)
  · replace h := ite_t c4 h
    refine lv_iconst (v := (0 : Int32)) hx hb dX6_takesLetter_35 (by decide) ?_
    exact rt (0 : Int32) σ 36 _ _ _ dX6_takesLetter_36 h hz (Or.inl rfl)
  · replace h := ite_f c4 h
    refine lv_aload_n hx hb dX6_takesLetter_15 rfl (lv_at hl 1 rfl) ?_
    refine va_get (v := .int (σ 45 0)) hx hb hts inX6_takesLetter_X6 hown hKK.1 hz.1 0 rfl rfl 11 (by decide) (hts _ (List.mem_of_getElem? (i := 1) rfl)) (fun _ h9 => h9) rfl dX6_takesLetter_16 ?_
    refine lv_iconst (v := (3 : Int32)) hx hb dX6_takesLetter_19 (by decide) ?_
    refine lv_icmp_ne (tgt := 37) hx hb dX6_takesLetter_20 (by decide) (fun c5 => ?_) (fun c5 => ?_)
    · replace h := ite_f c5 h
      exact b37  σ (x1 - (65 : Int32)) _ _ _ h hz (lv_sub hl [1, 0] rfl)
    · replace h := ite_t c5 h
      refine lv_aload_n hx hb dX6_takesLetter_23 rfl (lv_at hl 1 rfl) ?_
      refine va_get (v := .int (σ 46 0)) hx hb hts inX6_takesLetter_X6 hown hKK.1 hz.1 0 rfl rfl 12 (by decide) (hts _ (List.mem_of_getElem? (i := 2) rfl)) (fun _ h9 => h9) rfl dX6_takesLetter_24 ?_
      refine lv_iload_n hx hb dX6_takesLetter_27 rfl (lv_at hl 0 rfl) ?_
      refine lv_ishr hx hb dX6_takesLetter_28 ?_
      refine lv_iconst (v := (1 : Int32)) hx hb dX6_takesLetter_29 (by decide) ?_
      refine lv_iand hx hb dX6_takesLetter_30 ?_
      refine lv_iconst (v := (1 : Int32)) hx hb dX6_takesLetter_31 (by decide) ?_
      refine lv_icmp_ne (tgt := 37) hx hb dX6_takesLetter_32 (by decide) (fun c11 => ?_) (fun c11 => ?_)
      · replace h := ite_f c11 h
        exact b37  σ (x1 - (65 : Int32)) _ _ _ h hz (lv_sub hl [1, 0] rfl)
      · replace h := ite_t c11 h
        refine lv_iconst (v := (0 : Int32)) hx hb dX6_takesLetter_35 (by decide) ?_
        exact rt (0 : Int32) σ 36 _ _ _ dX6_takesLetter_36 h hz (Or.inl rfl)
def fX6_takesFigure_b66  (σ : St) (y2 : Int32) (t0 : Int32) (t1 : Int32) : Option (Int32 × St) :=
  (bd1 (fX6_keepItem σ t1 t0) fun s10 => (ck (y2 = 0 ∨ y2 = 1) <| some (y2, s10)))
def fX6_takesFigure_b41  (σ : St) (y1 : Int32) (t0 : Int32) : Option (Int32 × St) :=
  (if t0 = 0 then ((ck (t0 = 0 ∨ t0 = 1) <| some (t0, σ))) else ((if (σ 45 0) = (4 : Int32) then (fX6_takesFigure_b66  σ t0 ((1 : Int32) <<< (y1 &&& 31)) (σ 45 0)) else (fX6_takesFigure_b66  σ t0 y1 (σ 45 0)))))
def fX6_takesFigure (σ : St) (x1 : Int32) : Option (Int32 × St) :=
  (if (σ 45 0) = 0 then ((bd1 (fX6_within σ x1 (1 : Int32) (9 : Int32)) fun r16 => fX6_takesFigure_b41  σ x1 r16)) else ((if (σ 45 0) = (1 : Int32) then ((bd1 (fX6_within σ x1 (0 : Int32) (9 : Int32)) fun r13 => fX6_takesFigure_b41  σ x1 r13)) else ((bd1 (fX6_within σ x1 (1 : Int32) (3 : Int32)) fun r3 => fX6_takesFigure_b41  σ x1 r3)))))
abbrev rmX6_takesFigure : Room := { frames := 1, cells := 0, slots := 0, locals := 22 }
set_option maxHeartbeats 4000000 in
set_option maxRecDepth 100000 in
theorem KX6_takesFigure {l : Launch} {dC : Nat → ClassId} {dI : Nat → Nat → Nat} {cI cZ : ClassId} {a : Nat → Nat} {hh : Int64} {σ : St} {x1 : Int32} {r : Int32} {σ2 : St} (hok : okA 18 a) (h : fX6_takesFigure σ x1 = some (r, σ2)) (sz : Nat) : Met l yX6_takesFigure wsX6_takesFigure rmX6_takesFigure (Pz (dC, dI) cI cZ (wdM cI cZ a hh σ) sz [.ref (a 0), .int x1]) (Qzi (dC, dI) 18 a (wdM cI cZ a hh σ2) sz r) 0 0 (aN 18 a sz) := by
  refine Met.ofW (cc := cX6_takesFigure) (maxL := 3) (ret := (some .boolean)) (by decide) rfl ?_
  intro p e s m args below meth c s₁ B hml hv
  obtain ⟨hav, hsz, hP, hKK⟩ := hv
  have hx := B.exec
  have hb := B.bytes
  have hr := B.returns
  have hts := atoms_spec (ws := wsX6_takesFigure) B.pre
  have hown : s.vm.findClass RX6 = some m.cls := findClass_of_methodNamed B.named
  have hlocks := B.notSynchronized
  have CF : CallFix p m c cX6_takesFigure 3 s args wsX6_takesFigure RX6 := ⟨hx, hb, hml, hown, hts⟩
  have hz : zz (dC, dI) 18 a (wdM cI cZ a hh σ) s.heap s.heap [] := ⟨hP, va_S.rf⟩
  have hl := lv_entry [.ref (a 0), .int x1] (n := 3) (Nat.le_of_ble_eq_true rfl)
  have hen : entryFrame m args 3 = entryFrame m ([.ref (a 0), .int x1] : List Value).toArray 3 := by rw [hav]
  rw [hen, lg_entry_eq]
  generalize (lg_sl [.ref (a 0), .int x1] ++ List.replicate (3 - (lg_sl [.ref (a 0), .int x1]).length) Slot.unset).toArray = ls at hl ⊢
  have hl : lv_has ls 3 [(0, .ref (a 0)), (1, .int x1)] := hl
  have eR : (headSpec wsX6_takesFigure rmX6_takesFigure).room = rmX6_takesFigure := rfl
  rw [eR]
  have rt : ∀ (v : Int32) (t : St) (pc : Nat) (H : Heap) (locs : List Loc) (ls : Array Slot), decode cX6_takesFigure pc = .ok (.ireturn, 1) → some (v, t) = some (r, σ2) → zz (dC, dI) 18 a (wdM cI cZ a hh t) s.heap H locs → (v = 0 ∨ v = 1) → W p l e rmX6_takesFigure s m args below meth c H locs 0 0 (MQ below (Qzi (dC, dI) 18 a (wdM cI cZ a hh σ2) sz r) args s 0 0 (aN 18 a sz)) (F0 m pc ls [.int v]) := by
    intro v t pc H locs ls hd h hz hv
    cases h
    exact zzret hsz hx hb hr hlocks hv hz hd
  generalize (MQ below (Qzi (dC, dI) 18 a (wdM cI cZ a hh σ2) sz r) args s 0 0 (aN 18 a sz)) = Q at rt ⊢
  have b66 : ∀  (σ : St) (y2 : Int32) (t0 : Int32) (t1 : Int32) (H : Heap) (locs : List Loc) (ls : Array Slot), fX6_takesFigure_b66  σ y2 t0 t1 = some (r, σ2) → zz (dC, dI) 18 a (wdM cI cZ a hh σ) s.heap H locs → lv_has ls 3 [(2, .int y2)] → W p l e rmX6_takesFigure s m args below meth c H locs 0 0 Q (F0 m 66 ls [.int t0, .int t1, .ref (a 0)]) := by
    intro  σ y2 t0 t1 H locs ls h hz hl
    unfold fX6_takesFigure_b66 at h
    obtain ⟨s10, e11, h⟩ := bd1_e h
    refine zcallVv (As := [.int t1, .int t0]) (rest := []) CF hKK (KX6_keepItem (dC := dC) (dI := dI) (cI := cI) (cZ := cZ) (a := a) hok e11) (cwV 2 hts gX6_takesFigure_X6_keepItem rfl rfl rfl cdX6_keepItem ⟨Nat.le_of_ble_eq_true rfl, Nat.le_of_ble_eq_true rfl⟩) 0 6 rfl rfl hz rfl hl.1 rfl (Nat.le_of_ble_eq_true rfl) dX6_takesFigure_66 ⟨Nat.le_refl _, Nat.le_refl _⟩ (fun H locs hz => ?_)
    refine lv_iload_n hx hb dX6_takesFigure_69 rfl (lv_at hl 0 rfl) ?_
    obtain ⟨c12, h⟩ := ck_e h
    exact rt y2 s10 70 _ _ _ dX6_takesFigure_70 h hz c12
  have b41 : ∀  (σ : St) (y1 : Int32) (t0 : Int32) (H : Heap) (locs : List Loc) (ls : Array Slot), fX6_takesFigure_b41  σ y1 t0 = some (r, σ2) → zz (dC, dI) 18 a (wdM cI cZ a hh σ) s.heap H locs → lv_has ls 3 [(0, .ref (a 0)), (1, .int y1)] → W p l e rmX6_takesFigure s m args below meth c H locs 0 0 Q (F0 m 41 ls [.int t0]) := by
    intro  σ y1 t0 H locs ls h hz hl
    unfold fX6_takesFigure_b41 at h
    refine lv_istore_n (lv' := [(2, .int t0), (0, .ref (a 0)), (1, .int y1)]) hx hb dX6_takesFigure_41 rfl hl (by decide) rfl (fun ls hl => ?_)
    refine lv_iload_n hx hb dX6_takesFigure_42 rfl (lv_at hl 0 rfl) ?_
    refine lv_if_eq (tgt := 69) hx hb dX6_takesFigure_43 (by decide) (fun c6 => ?_) (fun c6 => ?_)
    · replace h := ite_t c6 h
      refine lv_iload_n hx hb dX6_takesFigure_69 rfl (lv_at hl 0 rfl) ?_
      obtain ⟨c7, h⟩ := ck_e h
      exact rt t0 σ 70 _ _ _ dX6_takesFigure_70 h hz c7
    · replace h := ite_f c6 h
      refine lv_aload_n hx hb dX6_takesFigure_46 rfl (lv_at hl 1 rfl) ?_
      refine lv_aload_n hx hb dX6_takesFigure_47 rfl (lv_at hl 1 rfl) ?_
      refine va_get (v := .int (σ 45 0)) hx hb hts inX6_takesFigure_X6 hown hKK.1 hz.1 0 rfl rfl 11 (by decide) (hts _ (List.mem_of_getElem? (i := 1) rfl)) (fun _ h9 => h9) rfl dX6_takesFigure_48 ?_
      refine lv_aload_n hx hb dX6_takesFigure_51 rfl (lv_at hl 1 rfl) ?_
      refine va_get (v := .int (σ 45 0)) hx hb hts inX6_takesFigure_X6 hown hKK.1 hz.1 0 rfl rfl 11 (by decide) (hts _ (List.mem_of_getElem? (i := 1) rfl)) (fun _ h9 => h9) rfl dX6_takesFigure_52 ?_
      refine lv_iconst (v := (4 : Int32)) hx hb dX6_takesFigure_55 (by decide) ?_
      refine lv_icmp_ne (tgt := 65) hx hb dX6_takesFigure_56 (by decide) (fun c8 => ?_) (fun c8 => ?_)
      · replace h := ite_f c8 h
        refine lv_iload_n hx hb dX6_takesFigure_65 rfl (lv_at hl 2 rfl) ?_
        exact b66  σ t0 y1 (σ 45 0) _ _ _ h hz (lv_sub hl [0] rfl)
      · replace h := ite_t c8 h
        refine lv_iconst (v := (1 : Int32)) hx hb dX6_takesFigure_59 (by decide) ?_
        refine lv_iload_n hx hb dX6_takesFigure_60 rfl (lv_at hl 2 rfl) ?_
        refine lv_ishl hx hb dX6_takesFigure_61 ?_
        refine lv_goto (tgt := 66) hx hb dX6_takesFigure_62 (by decide) ?_
        exact b66  σ t0 ((1 : Int32) <<< (y1 &&& 31)) (σ 45 0) _ _ _ h hz (lv_sub hl [0] rfl)
  unfold fX6_takesFigure at h
  refine lv_aload_n hx hb dX6_takesFigure_0 rfl (lv_at hl 0 rfl) ?_
  refine va_get (v := .int (σ 45 0)) hx hb hts inX6_takesFigure_X6 hown hKK.1 hz.1 0 rfl rfl 11 (by decide) (hts _ (List.mem_of_getElem? (i := 1) rfl)) (fun _ h9 => h9) rfl dX6_takesFigure_1 ?_
  refine lv_if_ne (tgt := 17) hx hb dX6_takesFigure_4 (by decide) (fun c1 => ?_) (fun c1 => ?_)
  · replace h := ite_f c1 h
    refine lv_aload_n hx hb dX6_takesFigure_17 rfl (lv_at hl 0 rfl) ?_
    refine va_get (v := .int (σ 45 0)) hx hb hts inX6_takesFigure_X6 hown hKK.1 hz.1 0 rfl rfl 11 (by decide) (hts _ (List.mem_of_getElem? (i := 1) rfl)) (fun _ h9 => h9) rfl dX6_takesFigure_18 ?_
    refine lv_iconst (v := (1 : Int32)) hx hb dX6_takesFigure_21 (by decide) ?_
    refine lv_icmp_ne (tgt := 35) hx hb dX6_takesFigure_22 (by decide) (fun c2 => ?_) (fun c2 => ?_)
    · replace h := ite_f c2 h
      refine lv_iload_n hx hb dX6_takesFigure_35 rfl (lv_at hl 1 rfl) ?_
      refine lv_iconst (v := (1 : Int32)) hx hb dX6_takesFigure_36 (by decide) ?_
      refine lv_iconst (v := (3 : Int32)) hx hb dX6_takesFigure_37 (by decide) ?_
      obtain ⟨r3, e5, h⟩ := bd1_e h
      refine zcallSi (As := [.int x1, .int (1 : Int32), .int (3 : Int32)]) (rest := []) CF hKK (KX6_within (dC := dC) (dI := dI) (cI := cI) (cZ := cZ) (a := a) hok e5) (va_cwS 3 hts gX6_takesFigure_X6_within rfl rfl rfl cdX6_within.2 ⟨Nat.le_of_ble_eq_true rfl, Nat.le_of_ble_eq_true rfl⟩) hz rfl hl.1 rfl (Nat.le_of_ble_eq_true rfl) dX6_takesFigure_38 ⟨Nat.le_refl _, Nat.le_refl _⟩ (fun H locs hz => ?_)
      exact b41  σ x1 r3 _ _ _ h hz (lv_sub hl [0, 1] rfl)
    · replace h := ite_t c2 h
      refine lv_iload_n hx hb dX6_takesFigure_25 rfl (lv_at hl 1 rfl) ?_
      refine lv_iconst (v := (0 : Int32)) hx hb dX6_takesFigure_26 (by decide) ?_
      refine lv_bipush (v := (9 : Int32)) hx hb dX6_takesFigure_27 (by decide) ?_
      obtain ⟨r13, e15, h⟩ := bd1_e h
      refine zcallSi (As := [.int x1, .int (0 : Int32), .int (9 : Int32)]) (rest := []) CF hKK (KX6_within (dC := dC) (dI := dI) (cI := cI) (cZ := cZ) (a := a) hok e15) (va_cwS 3 hts gX6_takesFigure_X6_within rfl rfl rfl cdX6_within.2 ⟨Nat.le_of_ble_eq_true rfl, Nat.le_of_ble_eq_true rfl⟩) hz rfl hl.1 rfl (Nat.le_of_ble_eq_true rfl) dX6_takesFigure_29 ⟨Nat.le_refl _, Nat.le_refl _⟩ (fun H locs hz => ?_)
      refine lv_goto (tgt := 41) hx hb dX6_takesFigure_32 (by decide) ?_
      exact b41  σ x1 r13 _ _ _ h hz (lv_sub hl [0, 1] rfl)
  · replace h := ite_t c1 h
    refine lv_iload_n hx hb dX6_takesFigure_7 rfl (lv_at hl 1 rfl) ?_
    refine lv_iconst (v := (1 : Int32)) hx hb dX6_takesFigure_8 (by decide) ?_
    refine lv_bipush (v := (9 : Int32)) hx hb dX6_takesFigure_9 (by decide) ?_
    obtain ⟨r16, e18, h⟩ := bd1_e h
    refine zcallSi (As := [.int x1, .int (1 : Int32), .int (9 : Int32)]) (rest := []) CF hKK (KX6_within (dC := dC) (dI := dI) (cI := cI) (cZ := cZ) (a := a) hok e18) (va_cwS 3 hts gX6_takesFigure_X6_within rfl rfl rfl cdX6_within.2 ⟨Nat.le_of_ble_eq_true rfl, Nat.le_of_ble_eq_true rfl⟩) hz rfl hl.1 rfl (Nat.le_of_ble_eq_true rfl) dX6_takesFigure_11 ⟨Nat.le_refl _, Nat.le_refl _⟩ (fun H locs hz => ?_)
    refine lv_goto (tgt := 41) hx hb dX6_takesFigure_14 (by decide) ?_
    exact b41  σ x1 r16 _ _ _ h hz (lv_sub hl [0, 1] rfl)
def fX6_takes_b30  (σ : St) (y1 : Int32) : Option (Int32 × St) :=
  (bd2 (fX6_takesLetter σ y1) fun r3 s4 => (ck (r3 = 0 ∨ r3 = 1) <| some (r3, s4)))
def fX6_takes (σ : St) (x1 : Int32) : Option (Int32 × St) :=
  (if (σ 45 0) = (-1 : Int32) then ((bd2 (fX6_takesFirst σ x1) fun r12 s13 => (ck (r12 = 0 ∨ r12 = 1) <| some (r12, s13)))) else ((if (σ 45 0) = (2 : Int32) then (fX6_takes_b30  σ x1) else ((if (σ 45 0) = (3 : Int32) then (fX6_takes_b30  σ x1) else ((bd2 (fX6_takesFigure σ (x1 - (48 : Int32))) fun r8 s9 => (ck (r8 = 0 ∨ r8 = 1) <| some (r8, s9)))))))))
abbrev rmX6_takes : Room := { frames := 2, cells := 0, slots := 0, locals := 44 }
set_option maxHeartbeats 4000000 in
set_option maxRecDepth 100000 in
theorem KX6_takes {l : Launch} {dC : Nat → ClassId} {dI : Nat → Nat → Nat} {cI cZ : ClassId} {a : Nat → Nat} {hh : Int64} {σ : St} {x1 : Int32} {r : Int32} {σ2 : St} (hok : okA 18 a) (h : fX6_takes σ x1 = some (r, σ2)) (sz : Nat) : Met l yX6_takes wsX6_takes rmX6_takes (Pz (dC, dI) cI cZ (wdM cI cZ a hh σ) sz [.ref (a 0), .int x1]) (Qzi (dC, dI) 18 a (wdM cI cZ a hh σ2) sz r) 0 0 (aN 18 a sz) := by
  refine Met.ofW (cc := cX6_takes) (maxL := 2) (ret := (some .boolean)) (by decide) rfl ?_
  intro p e s m args below meth c s₁ B hml hv
  obtain ⟨hav, hsz, hP, hKK⟩ := hv
  have hx := B.exec
  have hb := B.bytes
  have hr := B.returns
  have hts := atoms_spec (ws := wsX6_takes) B.pre
  have hown : s.vm.findClass RX6 = some m.cls := findClass_of_methodNamed B.named
  have hlocks := B.notSynchronized
  have CF : CallFix p m c cX6_takes 2 s args wsX6_takes RX6 := ⟨hx, hb, hml, hown, hts⟩
  have hz : zz (dC, dI) 18 a (wdM cI cZ a hh σ) s.heap s.heap [] := ⟨hP, va_S.rf⟩
  have hl := lv_entry [.ref (a 0), .int x1] (n := 2) (Nat.le_of_ble_eq_true rfl)
  have hen : entryFrame m args 2 = entryFrame m ([.ref (a 0), .int x1] : List Value).toArray 2 := by rw [hav]
  rw [hen, lg_entry_eq]
  generalize (lg_sl [.ref (a 0), .int x1] ++ List.replicate (2 - (lg_sl [.ref (a 0), .int x1]).length) Slot.unset).toArray = ls at hl ⊢
  have hl : lv_has ls 2 [(0, .ref (a 0)), (1, .int x1)] := hl
  have eR : (headSpec wsX6_takes rmX6_takes).room = rmX6_takes := rfl
  rw [eR]
  have rt : ∀ (v : Int32) (t : St) (pc : Nat) (H : Heap) (locs : List Loc) (ls : Array Slot), decode cX6_takes pc = .ok (.ireturn, 1) → some (v, t) = some (r, σ2) → zz (dC, dI) 18 a (wdM cI cZ a hh t) s.heap H locs → (v = 0 ∨ v = 1) → W p l e rmX6_takes s m args below meth c H locs 0 0 (MQ below (Qzi (dC, dI) 18 a (wdM cI cZ a hh σ2) sz r) args s 0 0 (aN 18 a sz)) (F0 m pc ls [.int v]) := by
    intro v t pc H locs ls hd h hz hv
    cases h
    exact zzret hsz hx hb hr hlocks hv hz hd
  generalize (MQ below (Qzi (dC, dI) 18 a (wdM cI cZ a hh σ2) sz r) args s 0 0 (aN 18 a sz)) = Q at rt ⊢
  have b30 : ∀  (σ : St) (y1 : Int32) (H : Heap) (locs : List Loc) (ls : Array Slot), fX6_takes_b30  σ y1 = some (r, σ2) → zz (dC, dI) 18 a (wdM cI cZ a hh σ) s.heap H locs → lv_has ls 2 [(0, .ref (a 0)), (1, .int y1)] → W p l e rmX6_takes s m args below meth c H locs 0 0 Q (F0 m 30 ls []) := by
    intro  σ y1 H locs ls h hz hl
    unfold fX6_takes_b30 at h
    refine lv_aload_n hx hb dX6_takes_30 rfl (lv_at hl 0 rfl) ?_
    refine lv_iload_n hx hb dX6_takes_31 rfl (lv_at hl 1 rfl) ?_
    obtain ⟨r3, s4, e5, h⟩ := bd2_e h
    refine zcallVi (As := [.int y1]) (rest := []) CF hKK (KX6_takesLetter (dC := dC) (dI := dI) (cI := cI) (cZ := cZ) (a := a) hok e5) (cwV 1 hts gX6_takes_X6_takesLetter rfl rfl rfl cdX6_takesLetter ⟨Nat.le_of_ble_eq_true rfl, Nat.le_of_ble_eq_true rfl⟩) 0 6 rfl rfl hz rfl hl.1 rfl (Nat.le_of_ble_eq_true rfl) dX6_takes_32 ⟨Nat.le_refl _, Nat.le_refl _⟩ (fun H locs hz => ?_)
    refine lv_goto (tgt := 46) hx hb dX6_takes_35 (by decide) ?_
    obtain ⟨c6, h⟩ := ck_e h
    exact rt r3 s4 46 _ _ _ dX6_takes_46 h hz c6
  unfold fX6_takes at h
  refine lv_aload_n hx hb dX6_takes_0 rfl (lv_at hl 0 rfl) ?_
  refine va_get (v := .int (σ 45 0)) hx hb hts inX6_takes_X6 hown hKK.1 hz.1 0 rfl rfl 11 (by decide) (hts _ (List.mem_of_getElem? (i := 1) rfl)) (fun _ h9 => h9) rfl dX6_takes_1 ?_
  refine lv_iconst (v := (-1 : Int32)) hx hb dX6_takes_4 (by decide) ?_
  refine lv_icmp_ne (tgt := 14) hx hb dX6_takes_5 (by decide) (fun c1 => ?_) (fun c1 => ?_)
  · replace h := ite_f c1 h
    refine lv_aload_n hx hb dX6_takes_14 rfl (lv_at hl 0 rfl) ?_
    refine va_get (v := .int (σ 45 0)) hx hb hts inX6_takes_X6 hown hKK.1 hz.1 0 rfl rfl 11 (by decide) (hts _ (List.mem_of_getElem? (i := 1) rfl)) (fun _ h9 => h9) rfl dX6_takes_15 ?_
    refine lv_iconst (v := (2 : Int32)) hx hb dX6_takes_18 (by decide) ?_
    refine lv_icmp_eq (tgt := 30) hx hb dX6_takes_19 (by decide) (fun c2 => ?_) (fun c2 => ?_)
    · replace h := ite_t c2 h
      exact b30  σ x1 _ _ _ h hz (lv_sub hl [0, 1] rfl)
    · replace h := ite_f c2 h
      refine lv_aload_n hx hb dX6_takes_22 rfl (lv_at hl 0 rfl) ?_
      refine va_get (v := .int (σ 45 0)) hx hb hts inX6_takes_X6 hown hKK.1 hz.1 0 rfl rfl 11 (by decide) (hts _ (List.mem_of_getElem? (i := 1) rfl)) (fun _ h9 => h9) rfl dX6_takes_23 ?_
      refine lv_iconst (v := (3 : Int32)) hx hb dX6_takes_26 (by decide) ?_
      refine lv_icmp_ne (tgt := 38) hx hb dX6_takes_27 (by decide) (fun c7 => ?_) (fun c7 => ?_)
      · replace h := ite_f c7 h
        refine lv_aload_n hx hb dX6_takes_38 rfl (lv_at hl 0 rfl) ?_
        refine lv_iload_n hx hb dX6_takes_39 rfl (lv_at hl 1 rfl) ?_
        refine lv_bipush (v := (48 : Int32)) hx hb dX6_takes_40 (by decide) ?_
        refine lv_isub hx hb dX6_takes_42 ?_
        obtain ⟨r8, s9, e10, h⟩ := bd2_e h
        refine zcallVi (As := [.int (x1 - (48 : Int32))]) (rest := []) CF hKK (KX6_takesFigure (dC := dC) (dI := dI) (cI := cI) (cZ := cZ) (a := a) hok e10) (cwV 1 hts gX6_takes_X6_takesFigure rfl rfl rfl cdX6_takesFigure ⟨Nat.le_of_ble_eq_true rfl, Nat.le_of_ble_eq_true rfl⟩) 0 6 rfl rfl hz rfl hl.1 rfl (Nat.le_of_ble_eq_true rfl) dX6_takes_43 ⟨Nat.le_refl _, Nat.le_refl _⟩ (fun H locs hz => ?_)
        obtain ⟨c11, h⟩ := ck_e h
        exact rt r8 s9 46 _ _ _ dX6_takes_46 h hz c11
      · replace h := ite_t c7 h
        exact b30  σ x1 _ _ _ h hz (lv_sub hl [0, 1] rfl)
  · replace h := ite_t c1 h
    refine lv_aload_n hx hb dX6_takes_8 rfl (lv_at hl 0 rfl) ?_
    refine lv_iload_n hx hb dX6_takes_9 rfl (lv_at hl 1 rfl) ?_
    obtain ⟨r12, s13, e14, h⟩ := bd2_e h
    refine zcallVi (As := [.int x1]) (rest := []) CF hKK (KX6_takesFirst (dC := dC) (dI := dI) (cI := cI) (cZ := cZ) (a := a) hok e14) (cwV 1 hts gX6_takes_X6_takesFirst rfl rfl rfl cdX6_takesFirst ⟨Nat.le_of_ble_eq_true rfl, Nat.le_of_ble_eq_true rfl⟩) 0 6 rfl rfl hz rfl hl.1 rfl (Nat.le_of_ble_eq_true rfl) dX6_takes_10 ⟨Nat.le_refl _, Nat.le_refl _⟩ (fun H locs hz => ?_)
    obtain ⟨c15, h⟩ := ck_e h
    exact rt r12 s13 13 _ _ _ dX6_takes_13 h hz c15
def fX6_goAlong_s22 (k22 : St → Int32 → Option (Int32 × St)) (σ : St) (y1 : Int32) : Option (Int32 × St) :=
  (if (σ 40 0) ≤ y1 then (some (y1, σ)) else ((ck (¬ (y1 < 0 ∨ 50 ≤ Int32.toNatClampNeg y1)) <| (bd2 (fX6_takes σ ((σ 1) (Int32.toNatClampNeg y1))) fun r3 s4 => (if r3 = 0 then (some (y1, s4)) else (k22 s4 (y1 + (1 : Int32))))))))
def fX6_goAlong_l22  : Nat → St → Int32 → Option (Int32 × St) :=
  itr (fX6_goAlong_s22 ) (fun _ _ => none)
def fX6_goAlong (σ : St)  : Option (Int32 × St) :=
  fX6_goAlong_l22  FU (si (si (si (si σ 44 (0 : Int32)) 45 (-1 : Int32)) 46 (0 : Int32)) 47 (0 : Int32)) (0 : Int32)
abbrev rmX6_goAlong : Room := { frames := 3, cells := 0, slots := 0, locals := 65 }
set_option maxHeartbeats 4000000 in
set_option maxRecDepth 100000 in
theorem KX6_goAlong {l : Launch} {dC : Nat → ClassId} {dI : Nat → Nat → Nat} {cI cZ : ClassId} {a : Nat → Nat} {hh : Int64} {σ : St}  {r : Int32} {σ2 : St} (hok : okA 18 a) (h : fX6_goAlong σ  = some (r, σ2)) (sz : Nat) : Met l yX6_goAlong wsX6_goAlong rmX6_goAlong (Pz (dC, dI) cI cZ (wdM cI cZ a hh σ) sz [.ref (a 0)]) (Qzi (dC, dI) 18 a (wdM cI cZ a hh σ2) sz r) 0 0 (aN 18 a sz) := by
  refine Met.ofW (cc := cX6_goAlong) (maxL := 2) (ret := (some .int)) (by decide) rfl ?_
  intro p e s m args below meth c s₁ B hml hv
  obtain ⟨hav, hsz, hP, hKK⟩ := hv
  have hx := B.exec
  have hb := B.bytes
  have hr := B.returns
  have hts := atoms_spec (ws := wsX6_goAlong) B.pre
  have hown : s.vm.findClass RX6 = some m.cls := findClass_of_methodNamed B.named
  have hlocks := B.notSynchronized
  have CF : CallFix p m c cX6_goAlong 2 s args wsX6_goAlong RX6 := ⟨hx, hb, hml, hown, hts⟩
  have hz : zz (dC, dI) 18 a (wdM cI cZ a hh σ) s.heap s.heap [] := ⟨hP, va_S.rf⟩
  have hl := lv_entry [.ref (a 0)] (n := 2) (Nat.le_of_ble_eq_true rfl)
  have hen : entryFrame m args 2 = entryFrame m ([.ref (a 0)] : List Value).toArray 2 := by rw [hav]
  rw [hen, lg_entry_eq]
  generalize (lg_sl [.ref (a 0)] ++ List.replicate (2 - (lg_sl [.ref (a 0)]).length) Slot.unset).toArray = ls at hl ⊢
  have hl : lv_has ls 2 [(0, .ref (a 0))] := hl
  have eR : (headSpec wsX6_goAlong rmX6_goAlong).room = rmX6_goAlong := rfl
  rw [eR]
  have rt : ∀ (v : Int32) (t : St) (pc : Nat) (H : Heap) (locs : List Loc) (ls : Array Slot), decode cX6_goAlong pc = .ok (.ireturn, 1) → some (v, t) = some (r, σ2) → zz (dC, dI) 18 a (wdM cI cZ a hh t) s.heap H locs → W p l e rmX6_goAlong s m args below meth c H locs 0 0 (MQ below (Qzi (dC, dI) 18 a (wdM cI cZ a hh σ2) sz r) args s 0 0 (aN 18 a sz)) (F0 m pc ls [.int v]) := by
    intro v t pc H locs ls hd h hz
    cases h
    exact ziret hsz hx hb hr hlocks hz hd
  generalize (MQ below (Qzi (dC, dI) 18 a (wdM cI cZ a hh σ2) sz r) args s 0 0 (aN 18 a sz)) = Q at rt ⊢
  have s22 : ∀ (k22 : St → Int32 → Option (Int32 × St)) (hk22 : (∀ (σ : St) (y1 : Int32) (H : Heap) (locs : List Loc) (ls : Array Slot), k22 σ y1 = some (r, σ2) → zz (dC, dI) 18 a (wdM cI cZ a hh σ) s.heap H locs → lv_has ls 2 [(0, .ref (a 0)), (1, .int y1)] → W p l e rmX6_goAlong s m args below meth c H locs 0 0 Q (F0 m 22 ls []))) (σ : St) (y1 : Int32) (H : Heap) (locs : List Loc) (ls : Array Slot), fX6_goAlong_s22 k22 σ y1 = some (r, σ2) → zz (dC, dI) 18 a (wdM cI cZ a hh σ) s.heap H locs → lv_has ls 2 [(0, .ref (a 0)), (1, .int y1)] → W p l e rmX6_goAlong s m args below meth c H locs 0 0 Q (F0 m 22 ls []) := by
    intro k22 hk22 σ y1 H locs ls h hz hl
    unfold fX6_goAlong_s22 at h
    refine lv_iload_n hx hb dX6_goAlong_22 rfl (lv_at hl 1 rfl) ?_
    refine lv_aload_n hx hb dX6_goAlong_23 rfl (lv_at hl 0 rfl) ?_
    refine va_get (v := .int (σ 40 0)) hx hb hts inX6_goAlong_X6 hown hKK.1 hz.1 0 rfl rfl 0 (by decide) (hts _ (List.mem_of_getElem? (i := 5) rfl)) (fun _ h9 => h9) rfl dX6_goAlong_24 ?_
    refine lv_icmp_ge (tgt := 49) hx hb dX6_goAlong_27 (by decide) (fun c1 => ?_) (fun c1 => ?_)
    · replace h := ite_t c1 h
      refine lv_iload_n hx hb dX6_goAlong_49 rfl (lv_at hl 1 rfl) ?_
      exact rt y1 σ 50 _ _ _ dX6_goAlong_50 h hz
    · replace h := ite_f c1 h
      refine lv_aload_n hx hb dX6_goAlong_30 rfl (lv_at hl 0 rfl) ?_
      refine lv_aload_n hx hb dX6_goAlong_31 rfl (lv_at hl 0 rfl) ?_
      refine va_get (v := .ref (a 1)) hx hb hts inX6_goAlong_X6 hown hKK.1 hz.1 0 rfl rfl 1 (by decide) (hts _ (List.mem_of_getElem? (i := 6) rfl)) (fun _ h9 => h9) rfl dX6_goAlong_32 ?_
      refine lv_iload_n hx hb dX6_goAlong_35 rfl (lv_at hl 1 rfl) ?_
      obtain ⟨c2, h⟩ := ck_e h
      refine va_iald (f := (σ 1)) hx hb hKK.1 hz.1 1 0 rfl rfl c2 dX6_goAlong_36 ?_
      obtain ⟨r3, s4, e5, h⟩ := bd2_e h
      refine zcallVi (As := [.int ((σ 1) (Int32.toNatClampNeg y1))]) (rest := []) CF hKK (KX6_takes (dC := dC) (dI := dI) (cI := cI) (cZ := cZ) (a := a) hok e5) (cwV 1 hts gX6_goAlong_X6_takes rfl rfl rfl cdX6_takes ⟨Nat.le_of_ble_eq_true rfl, Nat.le_of_ble_eq_true rfl⟩) 0 6 rfl rfl hz rfl hl.1 rfl (Nat.le_of_ble_eq_true rfl) dX6_goAlong_37 ⟨Nat.le_refl _, Nat.le_refl _⟩ (fun H locs hz => ?_)
      refine lv_if_eq (tgt := 49) hx hb dX6_goAlong_40 (by decide) (fun c6 => ?_) (fun c6 => ?_)
      · replace h := ite_t c6 h
        refine lv_iload_n hx hb dX6_goAlong_49 rfl (lv_at hl 1 rfl) ?_
        exact rt y1 s4 50 _ _ _ dX6_goAlong_50 h hz
      · replace h := ite_f c6 h
        refine lv_iinc (v := (y1 + (1 : Int32))) (lv' := [(1, .int (y1 + (1 : Int32))), (0, .ref (a 0))]) hx hb dX6_goAlong_43 hl (k := 1) rfl rfl (by decide) rfl (fun ls hl => ?_)
        refine lv_goto (tgt := 22) hx hb dX6_goAlong_46 (by decide) ?_
        exact hk22 s4 (y1 + (1 : Int32)) _ _ _ h hz (lv_sub hl [1, 0] rfl)
  have l22 : ∀  (n : Nat), ∀ (σ : St) (y1 : Int32) (H : Heap) (locs : List Loc) (ls : Array Slot), fX6_goAlong_l22  n σ y1 = some (r, σ2) → zz (dC, dI) 18 a (wdM cI cZ a hh σ) s.heap H locs → lv_has ls 2 [(0, .ref (a 0)), (1, .int y1)] → W p l e rmX6_goAlong s m args below meth c H locs 0 0 Q (F0 m 22 ls []) := by
    intro  n
    induction n with
    | zero => intro σ y1 H locs ls h; exact nomatch h
    | succ n ih => exact s22  (fX6_goAlong_l22  n) ih
  unfold fX6_goAlong at h
  refine lv_aload_n hx hb dX6_goAlong_0 rfl (lv_at hl 0 rfl) ?_
  refine lv_iconst (v := (0 : Int32)) hx hb dX6_goAlong_1 (by decide) ?_
  refine zput (ty := .int) (w' := wdM cI cZ a hh (si σ 44 (0 : Int32))) hx hb hts inX6_goAlong_X6 tyX6 tyX6_ok nmX6 hown hKK hok wkM hz 0 rfl rfl 8 (by decide) (hts _ (List.mem_of_getElem? (i := 1) rfl)) (fun _ h9 => h9) rfl rfl rfl rfl (Nat.le_of_ble_eq_true rfl) setMi_44 dX6_goAlong_2 (fun H locs hz => ?_)
  refine lv_aload_n hx hb dX6_goAlong_5 rfl (lv_at hl 0 rfl) ?_
  refine lv_iconst (v := (-1 : Int32)) hx hb dX6_goAlong_6 (by decide) ?_
  refine zput (ty := .int) (w' := wdM cI cZ a hh (si (si σ 44 (0 : Int32)) 45 (-1 : Int32))) hx hb hts inX6_goAlong_X6 tyX6 tyX6_ok nmX6 hown hKK hok wkM hz 0 rfl rfl 11 (by decide) (hts _ (List.mem_of_getElem? (i := 2) rfl)) (fun _ h9 => h9) rfl rfl rfl rfl (Nat.le_of_ble_eq_true rfl) setMi_45 dX6_goAlong_7 (fun H locs hz => ?_)
  refine lv_aload_n hx hb dX6_goAlong_10 rfl (lv_at hl 0 rfl) ?_
  refine lv_iconst (v := (0 : Int32)) hx hb dX6_goAlong_11 (by decide) ?_
  refine zput (ty := .int) (w' := wdM cI cZ a hh (si (si (si σ 44 (0 : Int32)) 45 (-1 : Int32)) 46 (0 : Int32))) hx hb hts inX6_goAlong_X6 tyX6 tyX6_ok nmX6 hown hKK hok wkM hz 0 rfl rfl 12 (by decide) (hts _ (List.mem_of_getElem? (i := 3) rfl)) (fun _ h9 => h9) rfl rfl rfl rfl (Nat.le_of_ble_eq_true rfl) setMi_46 dX6_goAlong_12 (fun H locs hz => ?_)
  refine lv_aload_n hx hb dX6_goAlong_15 rfl (lv_at hl 0 rfl) ?_
  refine lv_iconst (v := (0 : Int32)) hx hb dX6_goAlong_16 (by decide) ?_
  refine zput (ty := .int) (w' := wdM cI cZ a hh (si (si (si (si σ 44 (0 : Int32)) 45 (-1 : Int32)) 46 (0 : Int32)) 47 (0 : Int32))) hx hb hts inX6_goAlong_X6 tyX6 tyX6_ok nmX6 hown hKK hok wkM hz 0 rfl rfl 13 (by decide) (hts _ (List.mem_of_getElem? (i := 4) rfl)) (fun _ h9 => h9) rfl rfl rfl rfl (Nat.le_of_ble_eq_true rfl) setMi_47 dX6_goAlong_17 (fun H locs hz => ?_)
  refine lv_iconst (v := (0 : Int32)) hx hb dX6_goAlong_20 (by decide) ?_
  refine lv_istore_n (lv' := [(1, .int (0 : Int32)), (0, .ref (a 0))]) hx hb dX6_goAlong_21 rfl hl (by decide) rfl (fun ls hl => ?_)
  exact l22  FU (si (si (si (si σ 44 (0 : Int32)) 45 (-1 : Int32)) 46 (0 : Int32)) 47 (0 : Int32)) (0 : Int32) _ _ _ h hz (lv_sub hl [1, 0] rfl)
def fX6_fault (σ : St)  : Option (Int32 × St) :=
  (bd2 (fX6_goAlong σ ) fun r1 s2 => some (r1, s2))
abbrev rmX6_fault : Room := { frames := 4, cells := 0, slots := 0, locals := 86 }
set_option maxHeartbeats 4000000 in
set_option maxRecDepth 100000 in
theorem KX6_fault {l : Launch} {dC : Nat → ClassId} {dI : Nat → Nat → Nat} {cI cZ : ClassId} {a : Nat → Nat} {hh : Int64} {σ : St}  {r : Int32} {σ2 : St} (hok : okA 18 a) (h : fX6_fault σ  = some (r, σ2)) (sz : Nat) : Met l yX6_fault wsX6_fault rmX6_fault (Pz (dC, dI) cI cZ (wdM cI cZ a hh σ) sz [.ref (a 0)]) (Qzi (dC, dI) 18 a (wdM cI cZ a hh σ2) sz r) 0 0 (aN 18 a sz) := by
  refine Met.ofW (cc := cX6_fault) (maxL := 1) (ret := (some .int)) (by decide) rfl ?_
  intro p e s m args below meth c s₁ B hml hv
  obtain ⟨hav, hsz, hP, hKK⟩ := hv
  have hx := B.exec
  have hb := B.bytes
  have hr := B.returns
  have hts := atoms_spec (ws := wsX6_fault) B.pre
  have hown : s.vm.findClass RX6 = some m.cls := findClass_of_methodNamed B.named
  have hlocks := B.notSynchronized
  have CF : CallFix p m c cX6_fault 1 s args wsX6_fault RX6 := ⟨hx, hb, hml, hown, hts⟩
  have hz : zz (dC, dI) 18 a (wdM cI cZ a hh σ) s.heap s.heap [] := ⟨hP, va_S.rf⟩
  have hl := lv_entry [.ref (a 0)] (n := 1) (Nat.le_of_ble_eq_true rfl)
  have hen : entryFrame m args 1 = entryFrame m ([.ref (a 0)] : List Value).toArray 1 := by rw [hav]
  rw [hen, lg_entry_eq]
  generalize (lg_sl [.ref (a 0)] ++ List.replicate (1 - (lg_sl [.ref (a 0)]).length) Slot.unset).toArray = ls at hl ⊢
  have hl : lv_has ls 1 [(0, .ref (a 0))] := hl
  have eR : (headSpec wsX6_fault rmX6_fault).room = rmX6_fault := rfl
  rw [eR]
  have rt : ∀ (v : Int32) (t : St) (pc : Nat) (H : Heap) (locs : List Loc) (ls : Array Slot), decode cX6_fault pc = .ok (.ireturn, 1) → some (v, t) = some (r, σ2) → zz (dC, dI) 18 a (wdM cI cZ a hh t) s.heap H locs → W p l e rmX6_fault s m args below meth c H locs 0 0 (MQ below (Qzi (dC, dI) 18 a (wdM cI cZ a hh σ2) sz r) args s 0 0 (aN 18 a sz)) (F0 m pc ls [.int v]) := by
    intro v t pc H locs ls hd h hz
    cases h
    exact ziret hsz hx hb hr hlocks hz hd
  generalize (MQ below (Qzi (dC, dI) 18 a (wdM cI cZ a hh σ2) sz r) args s 0 0 (aN 18 a sz)) = Q at rt ⊢
  unfold fX6_fault at h
  refine lv_aload_n hx hb dX6_fault_0 rfl (lv_at hl 0 rfl) ?_
  obtain ⟨r1, s2, e3, h⟩ := bd2_e h
  refine zcallVi (As := []) (rest := []) CF hKK (KX6_goAlong (dC := dC) (dI := dI) (cI := cI) (cZ := cZ) (a := a) hok e3) (cwV 0 hts gX6_fault_X6_goAlong rfl rfl rfl cdX6_goAlong ⟨Nat.le_of_ble_eq_true rfl, Nat.le_of_ble_eq_true rfl⟩) 0 6 rfl rfl hz rfl hl.1 rfl (Nat.le_of_ble_eq_true rfl) dX6_fault_1 ⟨Nat.le_refl _, Nat.le_refl _⟩ (fun H locs hz => ?_)
  exact rt r1 s2 4 _ _ _ dX6_fault_4 h hz
def fX6_up (σ : St) (x1 : Int32) (x2 : Int32) : Option (Int32) :=
  (ck (¬ x2 = 0) <| some ((((x1 + x2) - (1 : Int32)) / x2) * x2))
abbrev rmX6_up : Room := { frames := 0, cells := 0, slots := 0, locals := 0 }
set_option maxHeartbeats 4000000 in
set_option maxRecDepth 100000 in
theorem KX6_up {l : Launch} {dC : Nat → ClassId} {dI : Nat → Nat → Nat} {cI cZ : ClassId} {a : Nat → Nat} {hh : Int64} {σ : St} {x1 : Int32} {x2 : Int32} {r : Int32} (hok : okA 18 a) (h : fX6_up σ x1 x2 = some r) (sz : Nat) : Met l yX6_up wsX6_up rmX6_up (Pz (dC, dI) cI cZ (wdM cI cZ a hh σ) sz [.int x1, .int x2]) (Qzi (dC, dI) 18 a (wdM cI cZ a hh σ) sz r) 0 0 (aN 18 a sz) := by
  refine Met.ofW (cc := cX6_up) (maxL := 2) (ret := (some .int)) (by decide) rfl ?_
  intro p e s m args below meth c s₁ B hml hv
  obtain ⟨hav, hsz, hP, hKK⟩ := hv
  have hx := B.exec
  have hb := B.bytes
  have hr := B.returns
  have hts := atoms_spec (ws := wsX6_up) B.pre
  have hown : s.vm.findClass RX6 = some m.cls := findClass_of_methodNamed B.named
  have hlocks := B.notSynchronized
  have CF : CallFix p m c cX6_up 2 s args wsX6_up RX6 := ⟨hx, hb, hml, hown, hts⟩
  have hz : zz (dC, dI) 18 a (wdM cI cZ a hh σ) s.heap s.heap [] := ⟨hP, va_S.rf⟩
  have hl := lv_entry [.int x1, .int x2] (n := 2) (Nat.le_of_ble_eq_true rfl)
  have hen : entryFrame m args 2 = entryFrame m ([.int x1, .int x2] : List Value).toArray 2 := by rw [hav]
  rw [hen, lg_entry_eq]
  generalize (lg_sl [.int x1, .int x2] ++ List.replicate (2 - (lg_sl [.int x1, .int x2]).length) Slot.unset).toArray = ls at hl ⊢
  have hl : lv_has ls 2 [(0, .int x1), (1, .int x2)] := hl
  have eR : (headSpec wsX6_up rmX6_up).room = rmX6_up := rfl
  rw [eR]
  have rt : ∀ (v : Int32) (t : St) (pc : Nat) (H : Heap) (locs : List Loc) (ls : Array Slot), decode cX6_up pc = .ok (.ireturn, 1) → some v = some r → zz (dC, dI) 18 a (wdM cI cZ a hh σ) s.heap H locs → W p l e rmX6_up s m args below meth c H locs 0 0 (MQ below (Qzi (dC, dI) 18 a (wdM cI cZ a hh σ) sz r) args s 0 0 (aN 18 a sz)) (F0 m pc ls [.int v]) := by
    intro v t pc H locs ls hd h hz
    cases h
    exact ziret hsz hx hb hr hlocks hz hd
  generalize (MQ below (Qzi (dC, dI) 18 a (wdM cI cZ a hh σ) sz r) args s 0 0 (aN 18 a sz)) = Q at rt ⊢
  unfold fX6_up at h
  refine lv_iload_n hx hb dX6_up_0 rfl (lv_at hl 0 rfl) ?_
  refine lv_iload_n hx hb dX6_up_1 rfl (lv_at hl 1 rfl) ?_
  refine lv_iadd hx hb dX6_up_2 ?_
  refine lv_iconst (v := (1 : Int32)) hx hb dX6_up_3 (by decide) ?_
  refine lv_isub hx hb dX6_up_4 ?_
  refine lv_iload_n hx hb dX6_up_5 rfl (lv_at hl 1 rfl) ?_
  obtain ⟨c1, h⟩ := ck_e h
  refine lv_idiv hx hb dX6_up_6 c1 ?_
  refine lv_iload_n hx hb dX6_up_7 rfl (lv_at hl 1 rfl) ?_
  refine lv_imul hx hb dX6_up_8 ?_
  exact rt ((((x1 + x2) - (1 : Int32)) / x2) * x2) σ 9 _ _ _ dX6_up_9 h hz
def fX6_sizeOf (σ : St) (x1 : Int32) (x2 : Int32) : Option (Int32) :=
  (ck (¬ (x1 < 0 ∨ 24 ≤ Int32.toNatClampNeg x1)) <| (if ((σ 2) (Int32.toNatClampNeg x1)) = (0 : Int32) then ((ck (¬ (x1 < 0 ∨ 24 ≤ Int32.toNatClampNeg x1)) <| some ((σ 3) (Int32.toNatClampNeg x1)))) else (if ((σ 2) (Int32.toNatClampNeg x1)) = (2 : Int32) then ((ck (¬ (x1 < 0 ∨ 24 ≤ Int32.toNatClampNeg x1)) <| (if ((σ 7) (Int32.toNatClampNeg x1)) = 0 then (some (2 : Int32)) else (some (4 : Int32))))) else (if ((σ 2) (Int32.toNatClampNeg x1)) = (3 : Int32) then (some (0 : Int32)) else (if ((σ 2) (Int32.toNatClampNeg x1)) = (4 : Int32) then ((ck (¬ (x1 < 0 ∨ 24 ≤ Int32.toNatClampNeg x1)) <| (bd1 (fX6_up σ x2 ((σ 3) (Int32.toNatClampNeg x1))) fun r10 => some (r10 - x2)))) else some (2 : Int32))))))
abbrev rmX6_sizeOf : Room := { frames := 1, cells := 0, slots := 0, locals := 21 }
set_option maxHeartbeats 4000000 in
set_option maxRecDepth 100000 in
theorem KX6_sizeOf {l : Launch} {dC : Nat → ClassId} {dI : Nat → Nat → Nat} {cI cZ : ClassId} {a : Nat → Nat} {hh : Int64} {σ : St} {x1 : Int32} {x2 : Int32} {r : Int32} (hok : okA 18 a) (h : fX6_sizeOf σ x1 x2 = some r) (sz : Nat) : Met l yX6_sizeOf wsX6_sizeOf rmX6_sizeOf (Pz (dC, dI) cI cZ (wdM cI cZ a hh σ) sz [.ref (a 0), .int x1, .int x2]) (Qzi (dC, dI) 18 a (wdM cI cZ a hh σ) sz r) 0 0 (aN 18 a sz) := by
  refine Met.ofW (cc := cX6_sizeOf) (maxL := 3) (ret := (some .int)) (by decide) rfl ?_
  intro p e s m args below meth c s₁ B hml hv
  obtain ⟨hav, hsz, hP, hKK⟩ := hv
  have hx := B.exec
  have hb := B.bytes
  have hr := B.returns
  have hts := atoms_spec (ws := wsX6_sizeOf) B.pre
  have hown : s.vm.findClass RX6 = some m.cls := findClass_of_methodNamed B.named
  have hlocks := B.notSynchronized
  have CF : CallFix p m c cX6_sizeOf 3 s args wsX6_sizeOf RX6 := ⟨hx, hb, hml, hown, hts⟩
  have hz : zz (dC, dI) 18 a (wdM cI cZ a hh σ) s.heap s.heap [] := ⟨hP, va_S.rf⟩
  have hl := lv_entry [.ref (a 0), .int x1, .int x2] (n := 3) (Nat.le_of_ble_eq_true rfl)
  have hen : entryFrame m args 3 = entryFrame m ([.ref (a 0), .int x1, .int x2] : List Value).toArray 3 := by rw [hav]
  rw [hen, lg_entry_eq]
  generalize (lg_sl [.ref (a 0), .int x1, .int x2] ++ List.replicate (3 - (lg_sl [.ref (a 0), .int x1, .int x2]).length) Slot.unset).toArray = ls at hl ⊢
  have hl : lv_has ls 3 [(0, .ref (a 0)), (1, .int x1), (2, .int x2)] := hl
  have eR : (headSpec wsX6_sizeOf rmX6_sizeOf).room = rmX6_sizeOf := rfl
  rw [eR]
  have rt : ∀ (v : Int32) (t : St) (pc : Nat) (H : Heap) (locs : List Loc) (ls : Array Slot), decode cX6_sizeOf pc = .ok (.ireturn, 1) → some v = some r → zz (dC, dI) 18 a (wdM cI cZ a hh σ) s.heap H locs → W p l e rmX6_sizeOf s m args below meth c H locs 0 0 (MQ below (Qzi (dC, dI) 18 a (wdM cI cZ a hh σ) sz r) args s 0 0 (aN 18 a sz)) (F0 m pc ls [.int v]) := by
    intro v t pc H locs ls hd h hz
    cases h
    exact ziret hsz hx hb hr hlocks hz hd
  generalize (MQ below (Qzi (dC, dI) 18 a (wdM cI cZ a hh σ) sz r) args s 0 0 (aN 18 a sz)) = Q at rt ⊢
  unfold fX6_sizeOf at h
  refine lv_aload_n hx hb dX6_sizeOf_0 rfl (lv_at hl 0 rfl) ?_
  refine va_get (v := .ref (a 2)) hx hb hts inX6_sizeOf_X6 hown hKK.1 hz.1 0 rfl rfl 3 (by decide) (hts _ (List.mem_of_getElem? (i := 1) rfl)) (fun _ h9 => h9) rfl dX6_sizeOf_1 ?_
  refine lv_iload_n hx hb dX6_sizeOf_4 rfl (lv_at hl 1 rfl) ?_
  obtain ⟨c1, h⟩ := ck_e h
  refine va_iald (f := (σ 2)) hx hb hKK.1 hz.1 2 0 rfl rfl c1 dX6_sizeOf_5 ?_
  by_cases c2 : ((σ 2) (Int32.toNatClampNeg x1)) = (0 : Int32)
  · replace h := ite_t c2 h
    refine lv_tableIn (tgt := 40) (off := 34) hx hb dX6_sizeOf_6 (by rw [c2]; decide) (by rw [c2]; decide) (by rw [c2]; rfl) (by decide) ?_
    refine lv_aload_n hx hb dX6_sizeOf_40 rfl (lv_at hl 0 rfl) ?_
    refine va_get (v := .ref (a 3)) hx hb hts inX6_sizeOf_X6 hown hKK.1 hz.1 0 rfl rfl 4 (by decide) (hts _ (List.mem_of_getElem? (i := 2) rfl)) (fun _ h9 => h9) rfl dX6_sizeOf_41 ?_
    refine lv_iload_n hx hb dX6_sizeOf_44 rfl (lv_at hl 1 rfl) ?_
    obtain ⟨c3, h⟩ := ck_e h
    refine va_iald (f := (σ 3)) hx hb hKK.1 hz.1 3 0 rfl rfl c3 dX6_sizeOf_45 ?_
    exact rt ((σ 3) (Int32.toNatClampNeg x1)) σ 46 _ _ _ dX6_sizeOf_46 h hz
  replace h := ite_f c2 h
  by_cases c4 : ((σ 2) (Int32.toNatClampNeg x1)) = (2 : Int32)
  · replace h := ite_t c4 h
    refine lv_tableIn (tgt := 47) (off := 41) hx hb dX6_sizeOf_6 (by rw [c4]; decide) (by rw [c4]; decide) (by rw [c4]; rfl) (by decide) ?_
    refine lv_aload_n hx hb dX6_sizeOf_47 rfl (lv_at hl 0 rfl) ?_
    refine va_get (v := .ref (a 7)) hx hb hts inX6_sizeOf_X6 hown hKK.1 hz.1 0 rfl rfl 14 (by decide) (hts _ (List.mem_of_getElem? (i := 3) rfl)) (fun _ h9 => h9) rfl dX6_sizeOf_48 ?_
    refine lv_iload_n hx hb dX6_sizeOf_51 rfl (lv_at hl 1 rfl) ?_
    obtain ⟨c5, h⟩ := ck_e h
    refine va_zald (f := (σ 7)) hx hb hKK.1 hz.1 7 1 rfl rfl c5 dX6_sizeOf_52 ?_
    refine lv_if_eq (tgt := 60) hx hb dX6_sizeOf_53 (by decide) (fun c6 => ?_) (fun c6 => ?_)
    · replace h := ite_t c6 h
      refine lv_iconst (v := (2 : Int32)) hx hb dX6_sizeOf_60 (by decide) ?_
      exact rt (2 : Int32) σ 61 _ _ _ dX6_sizeOf_61 h hz
    · replace h := ite_f c6 h
      refine lv_iconst (v := (4 : Int32)) hx hb dX6_sizeOf_56 (by decide) ?_
      refine lv_goto (tgt := 61) hx hb dX6_sizeOf_57 (by decide) ?_
      exact rt (4 : Int32) σ 61 _ _ _ dX6_sizeOf_61 h hz
  replace h := ite_f c4 h
  by_cases c7 : ((σ 2) (Int32.toNatClampNeg x1)) = (3 : Int32)
  · replace h := ite_t c7 h
    refine lv_tableIn (tgt := 62) (off := 56) hx hb dX6_sizeOf_6 (by rw [c7]; decide) (by rw [c7]; decide) (by rw [c7]; rfl) (by decide) ?_
    refine lv_iconst (v := (0 : Int32)) hx hb dX6_sizeOf_62 (by decide) ?_
    exact rt (0 : Int32) σ 63 _ _ _ dX6_sizeOf_63 h hz
  replace h := ite_f c7 h
  by_cases c8 : ((σ 2) (Int32.toNatClampNeg x1)) = (4 : Int32)
  · replace h := ite_t c8 h
    refine lv_tableIn (tgt := 64) (off := 58) hx hb dX6_sizeOf_6 (by rw [c8]; decide) (by rw [c8]; decide) (by rw [c8]; rfl) (by decide) ?_
    refine lv_iload_n hx hb dX6_sizeOf_64 rfl (lv_at hl 2 rfl) ?_
    refine lv_aload_n hx hb dX6_sizeOf_65 rfl (lv_at hl 0 rfl) ?_
    refine va_get (v := .ref (a 3)) hx hb hts inX6_sizeOf_X6 hown hKK.1 hz.1 0 rfl rfl 4 (by decide) (hts _ (List.mem_of_getElem? (i := 2) rfl)) (fun _ h9 => h9) rfl dX6_sizeOf_66 ?_
    refine lv_iload_n hx hb dX6_sizeOf_69 rfl (lv_at hl 1 rfl) ?_
    obtain ⟨c9, h⟩ := ck_e h
    refine va_iald (f := (σ 3)) hx hb hKK.1 hz.1 3 0 rfl rfl c9 dX6_sizeOf_70 ?_
    obtain ⟨r10, e12, h⟩ := bd1_e h
    refine zcallSi (As := [.int x2, .int ((σ 3) (Int32.toNatClampNeg x1))]) (rest := []) CF hKK (KX6_up (dC := dC) (dI := dI) (cI := cI) (cZ := cZ) (a := a) hok e12) (va_cwS 2 hts gX6_sizeOf_X6_up rfl rfl rfl cdX6_up.2 ⟨Nat.le_of_ble_eq_true rfl, Nat.le_of_ble_eq_true rfl⟩) hz rfl hl.1 rfl (Nat.le_of_ble_eq_true rfl) dX6_sizeOf_71 ⟨Nat.le_refl _, Nat.le_refl _⟩ (fun H locs hz => ?_)
    refine lv_iload_n hx hb dX6_sizeOf_74 rfl (lv_at hl 2 rfl) ?_
    refine lv_isub hx hb dX6_sizeOf_75 ?_
    exact rt (r10 - x2) σ 76 _ _ _ dX6_sizeOf_76 h hz
  replace h := ite_f c8 h
  by_cases c13 : ((σ 2) (Int32.toNatClampNeg x1)) = (1 : Int32)
  · refine lv_tableIn (tgt := 77) (off := 71) hx hb dX6_sizeOf_6 (by rw [c13]; decide) (by rw [c13]; decide) (by rw [c13]; rfl) (by decide) ?_
    refine lv_iconst (v := (2 : Int32)) hx hb dX6_sizeOf_77 (by decide) ?_
    exact rt (2 : Int32) σ 78 _ _ _ dX6_sizeOf_78 h hz
  refine lv_tableOut (tgt := 77) hx hb dX6_sizeOf_6 (by have := lv_neT c2 (a := 0) rfl; have := lv_neT c4 (a := 2) rfl; have := lv_neT c7 (a := 3) rfl; have := lv_neT c8 (a := 4) rfl; have := lv_neT c13 (a := 1) rfl; omega) (by decide) ?_
  refine lv_iconst (v := (2 : Int32)) hx hb dX6_sizeOf_77 (by decide) ?_
  exact rt (2 : Int32) σ 78 _ _ _ dX6_sizeOf_78 h hz
def fX6_layGap_b96 (k55 : St → Int32 → Int32 → Int32 → Int32 → Option (Int32 × St)) (σ : St) (y1 : Int32) (y3 : Int32) (y5 : Int32) (t0 : Int32) (t1 : Int32) : Option (Int32 × St) :=
  (bd1 (fX6_up (si σ 51 (t1 + t0)) y3 (4 : Int32)) fun r14 => (ck (¬ (y5 < 0 ∨ 16 ≤ Int32.toNatClampNeg y5)) <| k55 (sa (si σ 51 (t1 + t0)) 14 (Int32.toNatClampNeg y5) r14) y1 (r14 + (4 : Int32)) (1 : Int32) (y5 + (1 : Int32))))
def fX6_layGap_s55 (k55 : St → Int32 → Int32 → Int32 → Int32 → Option (Int32 × St)) (σ : St) (y1 : Int32) (y3 : Int32) (y4 : Int32) (y5 : Int32) : Option (Int32 × St) :=
  (if (σ 49 0) ≤ y5 then ((bd1 (fX6_up σ y3 (4 : Int32)) fun r4 => (ck (¬ (y1 < 0 ∨ 24 ≤ Int32.toNatClampNeg y1)) <| some (y3, (sa σ 16 (Int32.toNatClampNeg y1) r4))))) else ((ck (¬ (y5 < 0 ∨ 16 ≤ Int32.toNatClampNeg y5)) <| (if ((σ 11) (Int32.toNatClampNeg y5)) = y1 then ((if y4 = 0 then ((bd1 (fX6_up σ y3 (4 : Int32)) fun r11 => fX6_layGap_b96 k55 σ y1 y3 y5 (r11 - y3) (σ 51 0))) else (fX6_layGap_b96 k55 σ y1 y3 y5 (0 : Int32) (σ 51 0)))) else (k55 σ y1 y3 y4 (y5 + (1 : Int32)))))))
def fX6_layGap_l55  : Nat → St → Int32 → Int32 → Int32 → Int32 → Option (Int32 × St) :=
  itr (fX6_layGap_s55 ) (fun _ _ _ _ _ => none)
def fX6_layGap_s5 (k5 : St → Int32 → Int32 → Int32 → Option (Int32 × St)) (σ : St) (y1 : Int32) (y3 : Int32) (y4 : Int32) : Option (Int32 × St) :=
  (if (σ 48 0) ≤ y4 then ((ck (¬ (y1 < 0 ∨ 24 ≤ Int32.toNatClampNeg y1)) <| fX6_layGap_l55  FU (sa σ 15 (Int32.toNatClampNeg y1) y3) y1 y3 (0 : Int32) (0 : Int32))) else ((ck (¬ (y4 < 0 ∨ 12 ≤ Int32.toNatClampNeg y4)) <| (if ((σ 9) (Int32.toNatClampNeg y4)) = y1 then ((ck (¬ (y4 < 0 ∨ 12 ≤ Int32.toNatClampNeg y4)) <| k5 (sa σ 13 (Int32.toNatClampNeg y4) y3) y1 (y3 + (4 : Int32)) (y4 + (1 : Int32)))) else (k5 σ y1 y3 (y4 + (1 : Int32)))))))
def fX6_layGap_l5  : Nat → St → Int32 → Int32 → Int32 → Option (Int32 × St) :=
  itr (fX6_layGap_s5 ) (fun _ _ _ _ => none)
def fX6_layGap (σ : St) (x1 : Int32) (x2 : Int32) : Option (Int32 × St) :=
  fX6_layGap_l5  FU σ x1 x2 (0 : Int32)
abbrev rmX6_layGap : Room := { frames := 1, cells := 0, slots := 0, locals := 21 }
set_option maxHeartbeats 4000000 in
set_option maxRecDepth 100000 in
theorem KX6_layGap {l : Launch} {dC : Nat → ClassId} {dI : Nat → Nat → Nat} {cI cZ : ClassId} {a : Nat → Nat} {hh : Int64} {σ : St} {x1 : Int32} {x2 : Int32} {r : Int32} {σ2 : St} (hok : okA 18 a) (h : fX6_layGap σ x1 x2 = some (r, σ2)) (sz : Nat) : Met l yX6_layGap wsX6_layGap rmX6_layGap (Pz (dC, dI) cI cZ (wdM cI cZ a hh σ) sz [.ref (a 0), .int x1, .int x2]) (Qzi (dC, dI) 18 a (wdM cI cZ a hh σ2) sz r) 0 0 (aN 18 a sz) := by
  refine Met.ofW (cc := cX6_layGap) (maxL := 6) (ret := (some .int)) (by decide) rfl ?_
  intro p e s m args below meth c s₁ B hml hv
  obtain ⟨hav, hsz, hP, hKK⟩ := hv
  have hx := B.exec
  have hb := B.bytes
  have hr := B.returns
  have hts := atoms_spec (ws := wsX6_layGap) B.pre
  have hown : s.vm.findClass RX6 = some m.cls := findClass_of_methodNamed B.named
  have hlocks := B.notSynchronized
  have CF : CallFix p m c cX6_layGap 6 s args wsX6_layGap RX6 := ⟨hx, hb, hml, hown, hts⟩
  have hz : zz (dC, dI) 18 a (wdM cI cZ a hh σ) s.heap s.heap [] := ⟨hP, va_S.rf⟩
  have hl := lv_entry [.ref (a 0), .int x1, .int x2] (n := 6) (Nat.le_of_ble_eq_true rfl)
  have hen : entryFrame m args 6 = entryFrame m ([.ref (a 0), .int x1, .int x2] : List Value).toArray 6 := by rw [hav]
  rw [hen, lg_entry_eq]
  generalize (lg_sl [.ref (a 0), .int x1, .int x2] ++ List.replicate (6 - (lg_sl [.ref (a 0), .int x1, .int x2]).length) Slot.unset).toArray = ls at hl ⊢
  have hl : lv_has ls 6 [(0, .ref (a 0)), (1, .int x1), (2, .int x2)] := hl
  have eR : (headSpec wsX6_layGap rmX6_layGap).room = rmX6_layGap := rfl
  rw [eR]
  have rt : ∀ (v : Int32) (t : St) (pc : Nat) (H : Heap) (locs : List Loc) (ls : Array Slot), decode cX6_layGap pc = .ok (.ireturn, 1) → some (v, t) = some (r, σ2) → zz (dC, dI) 18 a (wdM cI cZ a hh t) s.heap H locs → W p l e rmX6_layGap s m args below meth c H locs 0 0 (MQ below (Qzi (dC, dI) 18 a (wdM cI cZ a hh σ2) sz r) args s 0 0 (aN 18 a sz)) (F0 m pc ls [.int v]) := by
    intro v t pc H locs ls hd h hz
    cases h
    exact ziret hsz hx hb hr hlocks hz hd
  generalize (MQ below (Qzi (dC, dI) 18 a (wdM cI cZ a hh σ2) sz r) args s 0 0 (aN 18 a sz)) = Q at rt ⊢
  have b96 : ∀ (k55 : St → Int32 → Int32 → Int32 → Int32 → Option (Int32 × St)) (hk55 : (∀ (σ : St) (y1 : Int32) (y3 : Int32) (y4 : Int32) (y5 : Int32) (H : Heap) (locs : List Loc) (ls : Array Slot), k55 σ y1 y3 y4 y5 = some (r, σ2) → zz (dC, dI) 18 a (wdM cI cZ a hh σ) s.heap H locs → lv_has ls 6 [(0, .ref (a 0)), (1, .int y1), (3, .int y3), (4, .int y4), (5, .int y5)] → W p l e rmX6_layGap s m args below meth c H locs 0 0 Q (F0 m 55 ls []))) (σ : St) (y1 : Int32) (y3 : Int32) (y5 : Int32) (t0 : Int32) (t1 : Int32) (H : Heap) (locs : List Loc) (ls : Array Slot), fX6_layGap_b96 k55 σ y1 y3 y5 t0 t1 = some (r, σ2) → zz (dC, dI) 18 a (wdM cI cZ a hh σ) s.heap H locs → lv_has ls 6 [(0, .ref (a 0)), (1, .int y1), (3, .int y3), (5, .int y5)] → W p l e rmX6_layGap s m args below meth c H locs 0 0 Q (F0 m 96 ls [.int t0, .int t1, .ref (a 0)]) := by
    intro k55 hk55 σ y1 y3 y5 t0 t1 H locs ls h hz hl
    unfold fX6_layGap_b96 at h
    refine lv_iadd hx hb dX6_layGap_96 ?_
    refine zput (ty := .int) (w' := wdM cI cZ a hh (si σ 51 (t1 + t0))) hx hb hts inX6_layGap_X6 tyX6 tyX6_ok nmX6 hown hKK hok wkM hz 0 rfl rfl 28 (by decide) (hts _ (List.mem_of_getElem? (i := 7) rfl)) (fun _ h9 => h9) rfl rfl rfl rfl (Nat.le_of_ble_eq_true rfl) setMi_51 dX6_layGap_97 (fun H locs hz => ?_)
    refine lv_iload_n hx hb dX6_layGap_100 rfl (lv_at hl 2 rfl) ?_
    refine lv_iconst (v := (4 : Int32)) hx hb dX6_layGap_101 (by decide) ?_
    obtain ⟨r14, e16, h⟩ := bd1_e h
    refine zcallSi (As := [.int y3, .int (4 : Int32)]) (rest := []) CF hKK (KX6_up (dC := dC) (dI := dI) (cI := cI) (cZ := cZ) (a := a) hok e16) (va_cwS 2 hts gX6_layGap_X6_up rfl rfl rfl cdX6_up.2 ⟨Nat.le_of_ble_eq_true rfl, Nat.le_of_ble_eq_true rfl⟩) hz rfl hl.1 rfl (Nat.le_of_ble_eq_true rfl) dX6_layGap_102 ⟨Nat.le_refl _, Nat.le_refl _⟩ (fun H locs hz => ?_)
    refine lv_istore_n (lv' := [(3, .int r14), (0, .ref (a 0)), (1, .int y1), (5, .int y5)]) hx hb dX6_layGap_105 rfl hl (by decide) rfl (fun ls hl => ?_)
    refine lv_aload_n hx hb dX6_layGap_106 rfl (lv_at hl 1 rfl) ?_
    refine va_get (v := .ref (a 14)) hx hb hts inX6_layGap_X6 hown hKK.1 hz.1 0 rfl rfl 23 (by decide) (hts _ (List.mem_of_getElem? (i := 8) rfl)) (fun _ h9 => h9) rfl dX6_layGap_107 ?_
    refine lv_iload hx hb dX6_layGap_110 (lv_at hl 3 rfl) ?_
    refine lv_iload_n hx hb dX6_layGap_112 rfl (lv_at hl 0 rfl) ?_
    obtain ⟨c17, h⟩ := ck_e h
    refine ziast (f := (si σ 51 (t1 + t0)) 14) (w' := wdM cI cZ a hh (sa (si σ 51 (t1 + t0)) 14 (Int32.toNatClampNeg y5) r14)) hx hb hKK hok wkM hz 14 rfl c17 setMa_14 dX6_layGap_113 (fun H locs hz => ?_)
    refine lv_iinc (v := (r14 + (4 : Int32))) (lv' := [(3, .int (r14 + (4 : Int32))), (0, .ref (a 0)), (1, .int y1), (5, .int y5)]) hx hb dX6_layGap_114 hl (k := 0) rfl rfl (by decide) rfl (fun ls hl => ?_)
    refine lv_iconst (v := (1 : Int32)) hx hb dX6_layGap_117 (by decide) ?_
    refine lv_istore (lv' := [(4, .int (1 : Int32)), (3, .int (r14 + (4 : Int32))), (0, .ref (a 0)), (1, .int y1), (5, .int y5)]) hx hb dX6_layGap_118 hl (by decide) rfl (fun ls hl => ?_)
    refine lv_iinc (v := (y5 + (1 : Int32))) (lv' := [(5, .int (y5 + (1 : Int32))), (4, .int (1 : Int32)), (3, .int (r14 + (4 : Int32))), (0, .ref (a 0)), (1, .int y1)]) hx hb dX6_layGap_120 hl (k := 4) rfl rfl (by decide) rfl (fun ls hl => ?_)
    refine lv_goto (tgt := 55) hx hb dX6_layGap_123 (by decide) ?_
    exact hk55 (sa (si σ 51 (t1 + t0)) 14 (Int32.toNatClampNeg y5) r14) y1 (r14 + (4 : Int32)) (1 : Int32) (y5 + (1 : Int32)) _ _ _ h hz (lv_sub hl [3, 4, 2, 1, 0] rfl)
  have s55 : ∀ (k55 : St → Int32 → Int32 → Int32 → Int32 → Option (Int32 × St)) (hk55 : (∀ (σ : St) (y1 : Int32) (y3 : Int32) (y4 : Int32) (y5 : Int32) (H : Heap) (locs : List Loc) (ls : Array Slot), k55 σ y1 y3 y4 y5 = some (r, σ2) → zz (dC, dI) 18 a (wdM cI cZ a hh σ) s.heap H locs → lv_has ls 6 [(0, .ref (a 0)), (1, .int y1), (3, .int y3), (4, .int y4), (5, .int y5)] → W p l e rmX6_layGap s m args below meth c H locs 0 0 Q (F0 m 55 ls []))) (σ : St) (y1 : Int32) (y3 : Int32) (y4 : Int32) (y5 : Int32) (H : Heap) (locs : List Loc) (ls : Array Slot), fX6_layGap_s55 k55 σ y1 y3 y4 y5 = some (r, σ2) → zz (dC, dI) 18 a (wdM cI cZ a hh σ) s.heap H locs → lv_has ls 6 [(0, .ref (a 0)), (1, .int y1), (3, .int y3), (4, .int y4), (5, .int y5)] → W p l e rmX6_layGap s m args below meth c H locs 0 0 Q (F0 m 55 ls []) := by
    intro k55 hk55 σ y1 y3 y4 y5 H locs ls h hz hl
    unfold fX6_layGap_s55 at h
    refine lv_iload hx hb dX6_layGap_55 (lv_at hl 4 rfl) ?_
    refine lv_aload_n hx hb dX6_layGap_57 rfl (lv_at hl 0 rfl) ?_
    refine va_get (v := .int (σ 49 0)) hx hb hts inX6_layGap_X6 hown hKK.1 hz.1 0 rfl rfl 18 (by decide) (hts _ (List.mem_of_getElem? (i := 5) rfl)) (fun _ h9 => h9) rfl dX6_layGap_58 ?_
    refine lv_icmp_ge (tgt := 126) hx hb dX6_layGap_61 (by decide) (fun c3 => ?_) (fun c3 => ?_)
    · replace h := ite_t c3 h
      refine lv_aload_n hx hb dX6_layGap_126 rfl (lv_at hl 0 rfl) ?_
      refine va_get (v := .ref (a 16)) hx hb hts inX6_layGap_X6 hown hKK.1 hz.1 0 rfl rfl 25 (by decide) (hts _ (List.mem_of_getElem? (i := 9) rfl)) (fun _ h9 => h9) rfl dX6_layGap_127 ?_
      refine lv_iload_n hx hb dX6_layGap_130 rfl (lv_at hl 1 rfl) ?_
      refine lv_iload_n hx hb dX6_layGap_131 rfl (lv_at hl 2 rfl) ?_
      refine lv_iconst (v := (4 : Int32)) hx hb dX6_layGap_132 (by decide) ?_
      obtain ⟨r4, e6, h⟩ := bd1_e h
      refine zcallSi (As := [.int y3, .int (4 : Int32)]) (rest := [.int y1, .ref (a 16)]) CF hKK (KX6_up (dC := dC) (dI := dI) (cI := cI) (cZ := cZ) (a := a) hok e6) (va_cwS 2 hts gX6_layGap_X6_up rfl rfl rfl cdX6_up.2 ⟨Nat.le_of_ble_eq_true rfl, Nat.le_of_ble_eq_true rfl⟩) hz rfl hl.1 rfl (Nat.le_of_ble_eq_true rfl) dX6_layGap_133 ⟨Nat.le_refl _, Nat.le_refl _⟩ (fun H locs hz => ?_)
      obtain ⟨c7, h⟩ := ck_e h
      refine ziast (f := σ 16) (w' := wdM cI cZ a hh (sa σ 16 (Int32.toNatClampNeg y1) r4)) hx hb hKK hok wkM hz 16 rfl c7 setMa_16 dX6_layGap_136 (fun H locs hz => ?_)
      refine lv_iload_n hx hb dX6_layGap_137 rfl (lv_at hl 2 rfl) ?_
      exact rt y3 (sa σ 16 (Int32.toNatClampNeg y1) r4) 138 _ _ _ dX6_layGap_138 h hz
    · replace h := ite_f c3 h
      refine lv_aload_n hx hb dX6_layGap_64 rfl (lv_at hl 0 rfl) ?_
      refine va_get (v := .ref (a 11)) hx hb hts inX6_layGap_X6 hown hKK.1 hz.1 0 rfl rfl 20 (by decide) (hts _ (List.mem_of_getElem? (i := 6) rfl)) (fun _ h9 => h9) rfl dX6_layGap_65 ?_
      refine lv_iload hx hb dX6_layGap_68 (lv_at hl 4 rfl) ?_
      obtain ⟨c8, h⟩ := ck_e h
      refine va_iald (f := (σ 11)) hx hb hKK.1 hz.1 11 0 rfl rfl c8 dX6_layGap_70 ?_
      refine lv_iload_n hx hb dX6_layGap_71 rfl (lv_at hl 1 rfl) ?_
      refine lv_icmp_ne (tgt := 120) hx hb dX6_layGap_72 (by decide) (fun c9 => ?_) (fun c9 => ?_)
      · replace h := ite_f c9 h
        refine lv_iinc (v := (y5 + (1 : Int32))) (lv' := [(5, .int (y5 + (1 : Int32))), (0, .ref (a 0)), (1, .int y1), (3, .int y3), (4, .int y4)]) hx hb dX6_layGap_120 hl (k := 4) rfl rfl (by decide) rfl (fun ls hl => ?_)
        refine lv_goto (tgt := 55) hx hb dX6_layGap_123 (by decide) ?_
        exact hk55 σ y1 y3 y4 (y5 + (1 : Int32)) _ _ _ h hz (lv_sub hl [1, 2, 3, 4, 0] rfl)
      · replace h := ite_t c9 h
        refine lv_aload_n hx hb dX6_layGap_75 rfl (lv_at hl 0 rfl) ?_
        refine lv_dup hx hb dX6_layGap_76 rfl ?_
        refine va_get (v := .int (σ 51 0)) hx hb hts inX6_layGap_X6 hown hKK.1 hz.1 0 rfl rfl 28 (by decide) (hts _ (List.mem_of_getElem? (i := 7) rfl)) (fun _ h9 => h9) rfl dX6_layGap_77 ?_
        refine lv_iload hx hb dX6_layGap_80 (lv_at hl 3 rfl) ?_
        refine lv_if_eq (tgt := 89) hx hb dX6_layGap_82 (by decide) (fun c10 => ?_) (fun c10 => ?_)
        · replace h := ite_t c10 h
          refine lv_iload_n hx hb dX6_layGap_89 rfl (lv_at hl 2 rfl) ?_
          refine lv_iconst (v := (4 : Int32)) hx hb dX6_layGap_90 (by decide) ?_
          obtain ⟨r11, e13, h⟩ := bd1_e h
          refine zcallSi (As := [.int y3, .int (4 : Int32)]) (rest := [.int (σ 51 0), .ref (a 0)]) CF hKK (KX6_up (dC := dC) (dI := dI) (cI := cI) (cZ := cZ) (a := a) hok e13) (va_cwS 2 hts gX6_layGap_X6_up rfl rfl rfl cdX6_up.2 ⟨Nat.le_of_ble_eq_true rfl, Nat.le_of_ble_eq_true rfl⟩) hz rfl hl.1 rfl (Nat.le_of_ble_eq_true rfl) dX6_layGap_91 ⟨Nat.le_refl _, Nat.le_refl _⟩ (fun H locs hz => ?_)
          refine lv_iload_n hx hb dX6_layGap_94 rfl (lv_at hl 2 rfl) ?_
          refine lv_isub hx hb dX6_layGap_95 ?_
          exact b96 k55 hk55 σ y1 y3 y5 (r11 - y3) (σ 51 0) _ _ _ h hz (lv_sub hl [0, 1, 2, 4] rfl)
        · replace h := ite_f c10 h
          refine lv_iconst (v := (0 : Int32)) hx hb dX6_layGap_85 (by decide) ?_
          refine lv_goto (tgt := 96) hx hb dX6_layGap_86 (by decide) ?_
          exact b96 k55 hk55 σ y1 y3 y5 (0 : Int32) (σ 51 0) _ _ _ h hz (lv_sub hl [0, 1, 2, 4] rfl)
  have l55 : ∀  (n : Nat), ∀ (σ : St) (y1 : Int32) (y3 : Int32) (y4 : Int32) (y5 : Int32) (H : Heap) (locs : List Loc) (ls : Array Slot), fX6_layGap_l55  n σ y1 y3 y4 y5 = some (r, σ2) → zz (dC, dI) 18 a (wdM cI cZ a hh σ) s.heap H locs → lv_has ls 6 [(0, .ref (a 0)), (1, .int y1), (3, .int y3), (4, .int y4), (5, .int y5)] → W p l e rmX6_layGap s m args below meth c H locs 0 0 Q (F0 m 55 ls []) := by
    intro  n
    induction n with
    | zero => intro σ y1 y3 y4 y5 H locs ls h; exact nomatch h
    | succ n ih => exact s55  (fX6_layGap_l55  n) ih
  have s5 : ∀ (k5 : St → Int32 → Int32 → Int32 → Option (Int32 × St)) (hk5 : (∀ (σ : St) (y1 : Int32) (y3 : Int32) (y4 : Int32) (H : Heap) (locs : List Loc) (ls : Array Slot), k5 σ y1 y3 y4 = some (r, σ2) → zz (dC, dI) 18 a (wdM cI cZ a hh σ) s.heap H locs → lv_has ls 6 [(0, .ref (a 0)), (1, .int y1), (3, .int y3), (4, .int y4)] → W p l e rmX6_layGap s m args below meth c H locs 0 0 Q (F0 m 5 ls []))) (σ : St) (y1 : Int32) (y3 : Int32) (y4 : Int32) (H : Heap) (locs : List Loc) (ls : Array Slot), fX6_layGap_s5 k5 σ y1 y3 y4 = some (r, σ2) → zz (dC, dI) 18 a (wdM cI cZ a hh σ) s.heap H locs → lv_has ls 6 [(0, .ref (a 0)), (1, .int y1), (3, .int y3), (4, .int y4)] → W p l e rmX6_layGap s m args below meth c H locs 0 0 Q (F0 m 5 ls []) := by
    intro k5 hk5 σ y1 y3 y4 H locs ls h hz hl
    unfold fX6_layGap_s5 at h
    refine lv_iload hx hb dX6_layGap_5 (lv_at hl 3 rfl) ?_
    refine lv_aload_n hx hb dX6_layGap_7 rfl (lv_at hl 0 rfl) ?_
    refine va_get (v := .int (σ 48 0)) hx hb hts inX6_layGap_X6 hown hKK.1 hz.1 0 rfl rfl 15 (by decide) (hts _ (List.mem_of_getElem? (i := 1) rfl)) (fun _ h9 => h9) rfl dX6_layGap_8 ?_
    refine lv_icmp_ge (tgt := 42) hx hb dX6_layGap_11 (by decide) (fun c1 => ?_) (fun c1 => ?_)
    · replace h := ite_t c1 h
      refine lv_aload_n hx hb dX6_layGap_42 rfl (lv_at hl 0 rfl) ?_
      refine va_get (v := .ref (a 15)) hx hb hts inX6_layGap_X6 hown hKK.1 hz.1 0 rfl rfl 24 (by decide) (hts _ (List.mem_of_getElem? (i := 4) rfl)) (fun _ h9 => h9) rfl dX6_layGap_43 ?_
      refine lv_iload_n hx hb dX6_layGap_46 rfl (lv_at hl 1 rfl) ?_
      refine lv_iload_n hx hb dX6_layGap_47 rfl (lv_at hl 2 rfl) ?_
      obtain ⟨c2, h⟩ := ck_e h
      refine ziast (f := σ 15) (w' := wdM cI cZ a hh (sa σ 15 (Int32.toNatClampNeg y1) y3)) hx hb hKK hok wkM hz 15 rfl c2 setMa_15 dX6_layGap_48 (fun H locs hz => ?_)
      refine lv_iconst (v := (0 : Int32)) hx hb dX6_layGap_49 (by decide) ?_
      refine lv_istore (lv' := [(4, .int (0 : Int32)), (0, .ref (a 0)), (1, .int y1), (3, .int y3)]) hx hb dX6_layGap_50 hl (by decide) rfl (fun ls hl => ?_)
      refine lv_iconst (v := (0 : Int32)) hx hb dX6_layGap_52 (by decide) ?_
      refine lv_istore (lv' := [(5, .int (0 : Int32)), (4, .int (0 : Int32)), (0, .ref (a 0)), (1, .int y1), (3, .int y3)]) hx hb dX6_layGap_53 hl (by decide) rfl (fun ls hl => ?_)
      exact l55  FU (sa σ 15 (Int32.toNatClampNeg y1) y3) y1 y3 (0 : Int32) (0 : Int32) _ _ _ h hz (lv_sub hl [2, 3, 4, 1, 0] rfl)
    · replace h := ite_f c1 h
      refine lv_aload_n hx hb dX6_layGap_14 rfl (lv_at hl 0 rfl) ?_
      refine va_get (v := .ref (a 9)) hx hb hts inX6_layGap_X6 hown hKK.1 hz.1 0 rfl rfl 17 (by decide) (hts _ (List.mem_of_getElem? (i := 2) rfl)) (fun _ h9 => h9) rfl dX6_layGap_15 ?_
      refine lv_iload hx hb dX6_layGap_18 (lv_at hl 3 rfl) ?_
      obtain ⟨c18, h⟩ := ck_e h
      refine va_iald (f := (σ 9)) hx hb hKK.1 hz.1 9 0 rfl rfl c18 dX6_layGap_20 ?_
      refine lv_iload_n hx hb dX6_layGap_21 rfl (lv_at hl 1 rfl) ?_
      refine lv_icmp_ne (tgt := 36) hx hb dX6_layGap_22 (by decide) (fun c19 => ?_) (fun c19 => ?_)
      · replace h := ite_f c19 h
        refine lv_iinc (v := (y4 + (1 : Int32))) (lv' := [(4, .int (y4 + (1 : Int32))), (0, .ref (a 0)), (1, .int y1), (3, .int y3)]) hx hb dX6_layGap_36 hl (k := 3) rfl rfl (by decide) rfl (fun ls hl => ?_)
        refine lv_goto (tgt := 5) hx hb dX6_layGap_39 (by decide) ?_
        exact hk5 σ y1 y3 (y4 + (1 : Int32)) _ _ _ h hz (lv_sub hl [1, 2, 3, 0] rfl)
      · replace h := ite_t c19 h
        refine lv_aload_n hx hb dX6_layGap_25 rfl (lv_at hl 0 rfl) ?_
        refine va_get (v := .ref (a 13)) hx hb hts inX6_layGap_X6 hown hKK.1 hz.1 0 rfl rfl 22 (by decide) (hts _ (List.mem_of_getElem? (i := 3) rfl)) (fun _ h9 => h9) rfl dX6_layGap_26 ?_
        refine lv_iload hx hb dX6_layGap_29 (lv_at hl 3 rfl) ?_
        refine lv_iload_n hx hb dX6_layGap_31 rfl (lv_at hl 2 rfl) ?_
        obtain ⟨c20, h⟩ := ck_e h
        refine ziast (f := σ 13) (w' := wdM cI cZ a hh (sa σ 13 (Int32.toNatClampNeg y4) y3)) hx hb hKK hok wkM hz 13 rfl c20 setMa_13 dX6_layGap_32 (fun H locs hz => ?_)
        refine lv_iinc (v := (y3 + (4 : Int32))) (lv' := [(3, .int (y3 + (4 : Int32))), (0, .ref (a 0)), (1, .int y1), (4, .int y4)]) hx hb dX6_layGap_33 hl (k := 2) rfl rfl (by decide) rfl (fun ls hl => ?_)
        refine lv_iinc (v := (y4 + (1 : Int32))) (lv' := [(4, .int (y4 + (1 : Int32))), (3, .int (y3 + (4 : Int32))), (0, .ref (a 0)), (1, .int y1)]) hx hb dX6_layGap_36 hl (k := 3) rfl rfl (by decide) rfl (fun ls hl => ?_)
        refine lv_goto (tgt := 5) hx hb dX6_layGap_39 (by decide) ?_
        exact hk5 (sa σ 13 (Int32.toNatClampNeg y4) y3) y1 (y3 + (4 : Int32)) (y4 + (1 : Int32)) _ _ _ h hz (lv_sub hl [2, 3, 1, 0] rfl)
  have l5 : ∀  (n : Nat), ∀ (σ : St) (y1 : Int32) (y3 : Int32) (y4 : Int32) (H : Heap) (locs : List Loc) (ls : Array Slot), fX6_layGap_l5  n σ y1 y3 y4 = some (r, σ2) → zz (dC, dI) 18 a (wdM cI cZ a hh σ) s.heap H locs → lv_has ls 6 [(0, .ref (a 0)), (1, .int y1), (3, .int y3), (4, .int y4)] → W p l e rmX6_layGap s m args below meth c H locs 0 0 Q (F0 m 5 ls []) := by
    intro  n
    induction n with
    | zero => intro σ y1 y3 y4 H locs ls h; exact nomatch h
    | succ n ih => exact s5  (fX6_layGap_l5  n) ih
  unfold fX6_layGap at h
  refine lv_iload_n hx hb dX6_layGap_0 rfl (lv_at hl 2 rfl) ?_
  refine lv_istore_n (lv' := [(3, .int x2), (0, .ref (a 0)), (1, .int x1), (2, .int x2)]) hx hb dX6_layGap_1 rfl hl (by decide) rfl (fun ls hl => ?_)
  refine lv_iconst (v := (0 : Int32)) hx hb dX6_layGap_2 (by decide) ?_
  refine lv_istore (lv' := [(4, .int (0 : Int32)), (3, .int x2), (0, .ref (a 0)), (1, .int x1), (2, .int x2)]) hx hb dX6_layGap_3 hl (by decide) rfl (fun ls hl => ?_)
  exact l5  FU σ x1 x2 (0 : Int32) _ _ _ h hz (lv_sub hl [2, 3, 1, 0] rfl)
def fX6_layAll_b71 (k9 : St → Int32 → Int32 → Option (St)) (σ : St) (y1 : Int32) (y2 : Int32) (t0 : Int32) (t1 : Int32) : Option (St) :=
  (bd1 (fX6_sizeOf (si σ 51 (t1 + t0)) y2 y1) fun r7 => (ck (¬ (y2 < 0 ∨ 24 ≤ Int32.toNatClampNeg y2)) <| (if ((σ 2) (Int32.toNatClampNeg y2)) = (5 : Int32) then ((bd2 (fX6_layGap (si σ 51 (t1 + t0)) y2 (y1 + r7)) fun r12 s13 => k9 s13 r12 (y2 + (1 : Int32)))) else (k9 (si σ 51 (t1 + t0)) (y1 + r7) (y2 + (1 : Int32))))))
def fX6_layAll_b46 (k9 : St → Int32 → Int32 → Option (St)) (σ : St) (y1 : Int32) (y2 : Int32) : Option (St) :=
  (ck (¬ (y2 < 0 ∨ 24 ≤ Int32.toNatClampNeg y2)) <| (if ((σ 2) (Int32.toNatClampNeg y2)) = (4 : Int32) then ((bd1 (fX6_sizeOf σ y2 y1) fun r15 => fX6_layAll_b71 k9 σ y1 y2 r15 (σ 51 0))) else (fX6_layAll_b71 k9 σ y1 y2 (0 : Int32) (σ 51 0))))
def fX6_layAll_s9 (k9 : St → Int32 → Int32 → Option (St)) (σ : St) (y1 : Int32) (y2 : Int32) : Option (St) :=
  (if (σ 41 0) ≤ y2 then (some (si σ 50 y1)) else ((ck (¬ (y2 < 0 ∨ 24 ≤ Int32.toNatClampNeg y2)) <| (ck (¬ (y2 < 0 ∨ 24 ≤ Int32.toNatClampNeg y2)) <| (if ((σ 2) (Int32.toNatClampNeg y2)) = (3 : Int32) then ((ck (¬ (y2 < 0 ∨ 24 ≤ Int32.toNatClampNeg y2)) <| (ck (¬ (((σ 3) (Int32.toNatClampNeg y2)) < 0 ∨ 8 ≤ Int32.toNatClampNeg ((σ 3) (Int32.toNatClampNeg y2)))) <| fX6_layAll_b46 k9 (sa (sa σ 12 (Int32.toNatClampNeg y2) y1) 17 (Int32.toNatClampNeg ((σ 3) (Int32.toNatClampNeg y2))) y1) y1 y2))) else (fX6_layAll_b46 k9 (sa σ 12 (Int32.toNatClampNeg y2) y1) y1 y2))))))
def fX6_layAll_l9  : Nat → St → Int32 → Int32 → Option (St) :=
  itr (fX6_layAll_s9 ) (fun _ _ _ => none)
def fX6_layAll (σ : St)  : Option (St) :=
  fX6_layAll_l9  FU (si σ 51 (0 : Int32)) (0 : Int32) (0 : Int32)
abbrev rmX6_layAll : Room := { frames := 2, cells := 0, slots := 0, locals := 46 }
set_option maxHeartbeats 4000000 in
set_option maxRecDepth 100000 in
theorem KX6_layAll {l : Launch} {dC : Nat → ClassId} {dI : Nat → Nat → Nat} {cI cZ : ClassId} {a : Nat → Nat} {hh : Int64} {σ : St}  {σ2 : St} (hok : okA 18 a) (h : fX6_layAll σ  = some σ2) (sz : Nat) : Met l yX6_layAll wsX6_layAll rmX6_layAll (Pz (dC, dI) cI cZ (wdM cI cZ a hh σ) sz [.ref (a 0)]) (Qzv (dC, dI) 18 a (wdM cI cZ a hh σ2) sz) 0 0 (aN 18 a sz) := by
  refine Met.ofW (cc := cX6_layAll) (maxL := 3) (ret := none) (by decide) rfl ?_
  intro p e s m args below meth c s₁ B hml hv
  obtain ⟨hav, hsz, hP, hKK⟩ := hv
  have hx := B.exec
  have hb := B.bytes
  have hr := B.returns
  have hts := atoms_spec (ws := wsX6_layAll) B.pre
  have hown : s.vm.findClass RX6 = some m.cls := findClass_of_methodNamed B.named
  have hlocks := B.notSynchronized
  have CF : CallFix p m c cX6_layAll 3 s args wsX6_layAll RX6 := ⟨hx, hb, hml, hown, hts⟩
  have hz : zz (dC, dI) 18 a (wdM cI cZ a hh σ) s.heap s.heap [] := ⟨hP, va_S.rf⟩
  have hl := lv_entry [.ref (a 0)] (n := 3) (Nat.le_of_ble_eq_true rfl)
  have hen : entryFrame m args 3 = entryFrame m ([.ref (a 0)] : List Value).toArray 3 := by rw [hav]
  rw [hen, lg_entry_eq]
  generalize (lg_sl [.ref (a 0)] ++ List.replicate (3 - (lg_sl [.ref (a 0)]).length) Slot.unset).toArray = ls at hl ⊢
  have hl : lv_has ls 3 [(0, .ref (a 0))] := hl
  have eR : (headSpec wsX6_layAll rmX6_layAll).room = rmX6_layAll := rfl
  rw [eR]
  have rt : ∀ (t : St) (pc : Nat) (H : Heap) (locs : List Loc) (ls : Array Slot), decode cX6_layAll pc = .ok (.return_, 1) → some t = some σ2 → zz (dC, dI) 18 a (wdM cI cZ a hh t) s.heap H locs → W p l e rmX6_layAll s m args below meth c H locs 0 0 (MQ below (Qzv (dC, dI) 18 a (wdM cI cZ a hh σ2) sz) args s 0 0 (aN 18 a sz)) (F0 m pc ls []) := by
    intro t pc H locs ls hd h hz
    cases h
    exact zvret hsz hx hb hr hlocks hz hd
  generalize (MQ below (Qzv (dC, dI) 18 a (wdM cI cZ a hh σ2) sz) args s 0 0 (aN 18 a sz)) = Q at rt ⊢
  have b71 : ∀ (k9 : St → Int32 → Int32 → Option (St)) (hk9 : (∀ (σ : St) (y1 : Int32) (y2 : Int32) (H : Heap) (locs : List Loc) (ls : Array Slot), k9 σ y1 y2 = some σ2 → zz (dC, dI) 18 a (wdM cI cZ a hh σ) s.heap H locs → lv_has ls 3 [(0, .ref (a 0)), (1, .int y1), (2, .int y2)] → W p l e rmX6_layAll s m args below meth c H locs 0 0 Q (F0 m 9 ls []))) (σ : St) (y1 : Int32) (y2 : Int32) (t0 : Int32) (t1 : Int32) (H : Heap) (locs : List Loc) (ls : Array Slot), fX6_layAll_b71 k9 σ y1 y2 t0 t1 = some σ2 → zz (dC, dI) 18 a (wdM cI cZ a hh σ) s.heap H locs → lv_has ls 3 [(0, .ref (a 0)), (1, .int y1), (2, .int y2)] → W p l e rmX6_layAll s m args below meth c H locs 0 0 Q (F0 m 71 ls [.int t0, .int t1, .ref (a 0)]) := by
    intro k9 hk9 σ y1 y2 t0 t1 H locs ls h hz hl
    unfold fX6_layAll_b71 at h
    refine lv_iadd hx hb dX6_layAll_71 ?_
    refine zput (ty := .int) (w' := wdM cI cZ a hh (si σ 51 (t1 + t0))) hx hb hts inX6_layAll_X6 tyX6 tyX6_ok nmX6 hown hKK hok wkM hz 0 rfl rfl 28 (by decide) (hts _ (List.mem_of_getElem? (i := 1) rfl)) (fun _ h9 => h9) rfl rfl rfl rfl (Nat.le_of_ble_eq_true rfl) setMi_51 dX6_layAll_72 (fun H locs hz => ?_)
    refine lv_iload_n hx hb dX6_layAll_75 rfl (lv_at hl 1 rfl) ?_
    refine lv_aload_n hx hb dX6_layAll_76 rfl (lv_at hl 0 rfl) ?_
    refine lv_iload_n hx hb dX6_layAll_77 rfl (lv_at hl 2 rfl) ?_
    refine lv_iload_n hx hb dX6_layAll_78 rfl (lv_at hl 1 rfl) ?_
    obtain ⟨r7, e9, h⟩ := bd1_e h
    refine zcallVi (As := [.int y2, .int y1]) (rest := [.int y1]) CF hKK (KX6_sizeOf (dC := dC) (dI := dI) (cI := cI) (cZ := cZ) (a := a) hok e9) (cwV 2 hts gX6_layAll_X6_sizeOf rfl rfl rfl cdX6_sizeOf ⟨Nat.le_of_ble_eq_true rfl, Nat.le_of_ble_eq_true rfl⟩) 0 6 rfl rfl hz rfl hl.1 rfl (Nat.le_of_ble_eq_true rfl) dX6_layAll_79 ⟨Nat.le_refl _, Nat.le_refl _⟩ (fun H locs hz => ?_)
    refine lv_iadd hx hb dX6_layAll_82 ?_
    refine lv_istore_n (lv' := [(1, .int (y1 + r7)), (0, .ref (a 0)), (2, .int y2)]) hx hb dX6_layAll_83 rfl hl (by decide) rfl (fun ls hl => ?_)
    refine lv_aload_n hx hb dX6_layAll_84 rfl (lv_at hl 1 rfl) ?_
    refine va_get (v := .ref (a 2)) hx hb hts inX6_layAll_X6 hown hKK.1 hz.1 0 rfl rfl 3 (by decide) (hts _ (List.mem_of_getElem? (i := 4) rfl)) (fun _ h9 => h9) rfl dX6_layAll_85 ?_
    refine lv_iload_n hx hb dX6_layAll_88 rfl (lv_at hl 2 rfl) ?_
    obtain ⟨c10, h⟩ := ck_e h
    refine va_iald (f := (σ 2)) hx hb hKK.1 hz.1 2 0 rfl rfl c10 dX6_layAll_89 ?_
    refine lv_iconst (v := (5 : Int32)) hx hb dX6_layAll_90 (by decide) ?_
    refine lv_icmp_ne (tgt := 101) hx hb dX6_layAll_91 (by decide) (fun c11 => ?_) (fun c11 => ?_)
    · replace h := ite_f c11 h
      refine lv_iinc (v := (y2 + (1 : Int32))) (lv' := [(2, .int (y2 + (1 : Int32))), (1, .int (y1 + r7)), (0, .ref (a 0))]) hx hb dX6_layAll_101 hl (k := 2) rfl rfl (by decide) rfl (fun ls hl => ?_)
      refine lv_goto (tgt := 9) hx hb dX6_layAll_104 (by decide) ?_
      exact hk9 (si σ 51 (t1 + t0)) (y1 + r7) (y2 + (1 : Int32)) _ _ _ h hz (lv_sub hl [2, 1, 0] rfl)
    · replace h := ite_t c11 h
      refine lv_aload_n hx hb dX6_layAll_94 rfl (lv_at hl 1 rfl) ?_
      refine lv_iload_n hx hb dX6_layAll_95 rfl (lv_at hl 2 rfl) ?_
      refine lv_iload_n hx hb dX6_layAll_96 rfl (lv_at hl 0 rfl) ?_
      obtain ⟨r12, s13, e14, h⟩ := bd2_e h
      refine zcallVi (As := [.int y2, .int (y1 + r7)]) (rest := []) CF hKK (KX6_layGap (dC := dC) (dI := dI) (cI := cI) (cZ := cZ) (a := a) hok e14) (cwV 2 hts gX6_layAll_X6_layGap rfl rfl rfl cdX6_layGap ⟨Nat.le_of_ble_eq_true rfl, Nat.le_of_ble_eq_true rfl⟩) 0 6 rfl rfl hz rfl hl.1 rfl (Nat.le_of_ble_eq_true rfl) dX6_layAll_97 ⟨Nat.le_refl _, Nat.le_refl _⟩ (fun H locs hz => ?_)
      refine lv_istore_n (lv' := [(1, .int r12), (0, .ref (a 0)), (2, .int y2)]) hx hb dX6_layAll_100 rfl hl (by decide) rfl (fun ls hl => ?_)
      refine lv_iinc (v := (y2 + (1 : Int32))) (lv' := [(2, .int (y2 + (1 : Int32))), (1, .int r12), (0, .ref (a 0))]) hx hb dX6_layAll_101 hl (k := 2) rfl rfl (by decide) rfl (fun ls hl => ?_)
      refine lv_goto (tgt := 9) hx hb dX6_layAll_104 (by decide) ?_
      exact hk9 s13 r12 (y2 + (1 : Int32)) _ _ _ h hz (lv_sub hl [2, 1, 0] rfl)
  have b46 : ∀ (k9 : St → Int32 → Int32 → Option (St)) (hk9 : (∀ (σ : St) (y1 : Int32) (y2 : Int32) (H : Heap) (locs : List Loc) (ls : Array Slot), k9 σ y1 y2 = some σ2 → zz (dC, dI) 18 a (wdM cI cZ a hh σ) s.heap H locs → lv_has ls 3 [(0, .ref (a 0)), (1, .int y1), (2, .int y2)] → W p l e rmX6_layAll s m args below meth c H locs 0 0 Q (F0 m 9 ls []))) (σ : St) (y1 : Int32) (y2 : Int32) (H : Heap) (locs : List Loc) (ls : Array Slot), fX6_layAll_b46 k9 σ y1 y2 = some σ2 → zz (dC, dI) 18 a (wdM cI cZ a hh σ) s.heap H locs → lv_has ls 3 [(0, .ref (a 0)), (1, .int y1), (2, .int y2)] → W p l e rmX6_layAll s m args below meth c H locs 0 0 Q (F0 m 46 ls []) := by
    intro k9 hk9 σ y1 y2 H locs ls h hz hl
    unfold fX6_layAll_b46 at h
    refine lv_aload_n hx hb dX6_layAll_46 rfl (lv_at hl 0 rfl) ?_
    refine lv_dup hx hb dX6_layAll_47 rfl ?_
    refine va_get (v := .int (σ 51 0)) hx hb hts inX6_layAll_X6 hown hKK.1 hz.1 0 rfl rfl 28 (by decide) (hts _ (List.mem_of_getElem? (i := 1) rfl)) (fun _ h9 => h9) rfl dX6_layAll_48 ?_
    refine lv_aload_n hx hb dX6_layAll_51 rfl (lv_at hl 0 rfl) ?_
    refine va_get (v := .ref (a 2)) hx hb hts inX6_layAll_X6 hown hKK.1 hz.1 0 rfl rfl 3 (by decide) (hts _ (List.mem_of_getElem? (i := 4) rfl)) (fun _ h9 => h9) rfl dX6_layAll_52 ?_
    refine lv_iload_n hx hb dX6_layAll_55 rfl (lv_at hl 2 rfl) ?_
    obtain ⟨c5, h⟩ := ck_e h
    refine va_iald (f := (σ 2)) hx hb hKK.1 hz.1 2 0 rfl rfl c5 dX6_layAll_56 ?_
    refine lv_iconst (v := (4 : Int32)) hx hb dX6_layAll_57 (by decide) ?_
    refine lv_icmp_ne (tgt := 70) hx hb dX6_layAll_58 (by decide) (fun c6 => ?_) (fun c6 => ?_)
    · replace h := ite_f c6 h
      refine lv_iconst (v := (0 : Int32)) hx hb dX6_layAll_70 (by decide) ?_
      exact b71 k9 hk9 σ y1 y2 (0 : Int32) (σ 51 0) _ _ _ h hz (lv_sub hl [0, 1, 2] rfl)
    · replace h := ite_t c6 h
      refine lv_aload_n hx hb dX6_layAll_61 rfl (lv_at hl 0 rfl) ?_
      refine lv_iload_n hx hb dX6_layAll_62 rfl (lv_at hl 2 rfl) ?_
      refine lv_iload_n hx hb dX6_layAll_63 rfl (lv_at hl 1 rfl) ?_
      obtain ⟨r15, e17, h⟩ := bd1_e h
      refine zcallVi (As := [.int y2, .int y1]) (rest := [.int (σ 51 0), .ref (a 0)]) CF hKK (KX6_sizeOf (dC := dC) (dI := dI) (cI := cI) (cZ := cZ) (a := a) hok e17) (cwV 2 hts gX6_layAll_X6_sizeOf rfl rfl rfl cdX6_sizeOf ⟨Nat.le_of_ble_eq_true rfl, Nat.le_of_ble_eq_true rfl⟩) 0 6 rfl rfl hz rfl hl.1 rfl (Nat.le_of_ble_eq_true rfl) dX6_layAll_64 ⟨Nat.le_refl _, Nat.le_refl _⟩ (fun H locs hz => ?_)
      refine lv_goto (tgt := 71) hx hb dX6_layAll_67 (by decide) ?_
      exact b71 k9 hk9 σ y1 y2 r15 (σ 51 0) _ _ _ h hz (lv_sub hl [0, 1, 2] rfl)
  have s9 : ∀ (k9 : St → Int32 → Int32 → Option (St)) (hk9 : (∀ (σ : St) (y1 : Int32) (y2 : Int32) (H : Heap) (locs : List Loc) (ls : Array Slot), k9 σ y1 y2 = some σ2 → zz (dC, dI) 18 a (wdM cI cZ a hh σ) s.heap H locs → lv_has ls 3 [(0, .ref (a 0)), (1, .int y1), (2, .int y2)] → W p l e rmX6_layAll s m args below meth c H locs 0 0 Q (F0 m 9 ls []))) (σ : St) (y1 : Int32) (y2 : Int32) (H : Heap) (locs : List Loc) (ls : Array Slot), fX6_layAll_s9 k9 σ y1 y2 = some σ2 → zz (dC, dI) 18 a (wdM cI cZ a hh σ) s.heap H locs → lv_has ls 3 [(0, .ref (a 0)), (1, .int y1), (2, .int y2)] → W p l e rmX6_layAll s m args below meth c H locs 0 0 Q (F0 m 9 ls []) := by
    intro k9 hk9 σ y1 y2 H locs ls h hz hl
    unfold fX6_layAll_s9 at h
    refine lv_iload_n hx hb dX6_layAll_9 rfl (lv_at hl 2 rfl) ?_
    refine lv_aload_n hx hb dX6_layAll_10 rfl (lv_at hl 0 rfl) ?_
    refine va_get (v := .int (σ 41 0)) hx hb hts inX6_layAll_X6 hown hKK.1 hz.1 0 rfl rfl 2 (by decide) (hts _ (List.mem_of_getElem? (i := 2) rfl)) (fun _ h9 => h9) rfl dX6_layAll_11 ?_
    refine lv_icmp_ge (tgt := 107) hx hb dX6_layAll_14 (by decide) (fun c1 => ?_) (fun c1 => ?_)
    · replace h := ite_t c1 h
      refine lv_aload_n hx hb dX6_layAll_107 rfl (lv_at hl 0 rfl) ?_
      refine lv_iload_n hx hb dX6_layAll_108 rfl (lv_at hl 1 rfl) ?_
      refine zput (ty := .int) (w' := wdM cI cZ a hh (si σ 50 y1)) hx hb hts inX6_layAll_X6 tyX6 tyX6_ok nmX6 hown hKK hok wkM hz 0 rfl rfl 27 (by decide) (hts _ (List.mem_of_getElem? (i := 7) rfl)) (fun _ h9 => h9) rfl rfl rfl rfl (Nat.le_of_ble_eq_true rfl) setMi_50 dX6_layAll_109 (fun H locs hz => ?_)
      exact rt (si σ 50 y1) 112 _ _ _ dX6_layAll_112 h hz
    · replace h := ite_f c1 h
      refine lv_aload_n hx hb dX6_layAll_17 rfl (lv_at hl 0 rfl) ?_
      refine va_get (v := .ref (a 12)) hx hb hts inX6_layAll_X6 hown hKK.1 hz.1 0 rfl rfl 21 (by decide) (hts _ (List.mem_of_getElem? (i := 3) rfl)) (fun _ h9 => h9) rfl dX6_layAll_18 ?_
      refine lv_iload_n hx hb dX6_layAll_21 rfl (lv_at hl 2 rfl) ?_
      refine lv_iload_n hx hb dX6_layAll_22 rfl (lv_at hl 1 rfl) ?_
      obtain ⟨c2, h⟩ := ck_e h
      refine ziast (f := σ 12) (w' := wdM cI cZ a hh (sa σ 12 (Int32.toNatClampNeg y2) y1)) hx hb hKK hok wkM hz 12 rfl c2 setMa_12 dX6_layAll_23 (fun H locs hz => ?_)
      refine lv_aload_n hx hb dX6_layAll_24 rfl (lv_at hl 0 rfl) ?_
      refine va_get (v := .ref (a 2)) hx hb hts inX6_layAll_X6 hown hKK.1 hz.1 0 rfl rfl 3 (by decide) (hts _ (List.mem_of_getElem? (i := 4) rfl)) (fun _ h9 => h9) rfl dX6_layAll_25 ?_
      refine lv_iload_n hx hb dX6_layAll_28 rfl (lv_at hl 2 rfl) ?_
      obtain ⟨c3, h⟩ := ck_e h
      refine va_iald (f := (σ 2)) hx hb hKK.1 hz.1 2 0 rfl rfl c3 dX6_layAll_29 ?_
      refine lv_iconst (v := (3 : Int32)) hx hb dX6_layAll_30 (by decide) ?_
      refine lv_icmp_ne (tgt := 46) hx hb dX6_layAll_31 (by decide) (fun c4 => ?_) (fun c4 => ?_)
      · replace h := ite_f c4 h
        exact b46 k9 hk9 (sa σ 12 (Int32.toNatClampNeg y2) y1) y1 y2 _ _ _ h hz (lv_sub hl [0, 1, 2] rfl)
      · replace h := ite_t c4 h
        refine lv_aload_n hx hb dX6_layAll_34 rfl (lv_at hl 0 rfl) ?_
        refine va_get (v := .ref (a 17)) hx hb hts inX6_layAll_X6 hown hKK.1 hz.1 0 rfl rfl 26 (by decide) (hts _ (List.mem_of_getElem? (i := 5) rfl)) (fun _ h9 => h9) rfl dX6_layAll_35 ?_
        refine lv_aload_n hx hb dX6_layAll_38 rfl (lv_at hl 0 rfl) ?_
        refine va_get (v := .ref (a 3)) hx hb hts inX6_layAll_X6 hown hKK.1 hz.1 0 rfl rfl 4 (by decide) (hts _ (List.mem_of_getElem? (i := 6) rfl)) (fun _ h9 => h9) rfl dX6_layAll_39 ?_
        refine lv_iload_n hx hb dX6_layAll_42 rfl (lv_at hl 2 rfl) ?_
        obtain ⟨c18, h⟩ := ck_e h
        refine va_iald (f := (σ 3)) hx hb hKK.1 hz.1 3 0 rfl rfl c18 dX6_layAll_43 ?_
        refine lv_iload_n hx hb dX6_layAll_44 rfl (lv_at hl 1 rfl) ?_
        obtain ⟨c19, h⟩ := ck_e h
        refine ziast (f := (sa σ 12 (Int32.toNatClampNeg y2) y1) 17) (w' := wdM cI cZ a hh (sa (sa σ 12 (Int32.toNatClampNeg y2) y1) 17 (Int32.toNatClampNeg ((σ 3) (Int32.toNatClampNeg y2))) y1)) hx hb hKK hok wkM hz 17 rfl c19 setMa_17 dX6_layAll_45 (fun H locs hz => ?_)
        exact b46 k9 hk9 (sa (sa σ 12 (Int32.toNatClampNeg y2) y1) 17 (Int32.toNatClampNeg ((σ 3) (Int32.toNatClampNeg y2))) y1) y1 y2 _ _ _ h hz (lv_sub hl [0, 1, 2] rfl)
  have l9 : ∀  (n : Nat), ∀ (σ : St) (y1 : Int32) (y2 : Int32) (H : Heap) (locs : List Loc) (ls : Array Slot), fX6_layAll_l9  n σ y1 y2 = some σ2 → zz (dC, dI) 18 a (wdM cI cZ a hh σ) s.heap H locs → lv_has ls 3 [(0, .ref (a 0)), (1, .int y1), (2, .int y2)] → W p l e rmX6_layAll s m args below meth c H locs 0 0 Q (F0 m 9 ls []) := by
    intro  n
    induction n with
    | zero => intro σ y1 y2 H locs ls h; exact nomatch h
    | succ n ih => exact s9  (fX6_layAll_l9  n) ih
  unfold fX6_layAll at h
  refine lv_iconst (v := (0 : Int32)) hx hb dX6_layAll_0 (by decide) ?_
  refine lv_istore_n (lv' := [(1, .int (0 : Int32)), (0, .ref (a 0))]) hx hb dX6_layAll_1 rfl hl (by decide) rfl (fun ls hl => ?_)
  refine lv_aload_n hx hb dX6_layAll_2 rfl (lv_at hl 1 rfl) ?_
  refine lv_iconst (v := (0 : Int32)) hx hb dX6_layAll_3 (by decide) ?_
  refine zput (ty := .int) (w' := wdM cI cZ a hh (si σ 51 (0 : Int32))) hx hb hts inX6_layAll_X6 tyX6 tyX6_ok nmX6 hown hKK hok wkM hz 0 rfl rfl 28 (by decide) (hts _ (List.mem_of_getElem? (i := 1) rfl)) (fun _ h9 => h9) rfl rfl rfl rfl (Nat.le_of_ble_eq_true rfl) setMi_51 dX6_layAll_4 (fun H locs hz => ?_)
  refine lv_iconst (v := (0 : Int32)) hx hb dX6_layAll_7 (by decide) ?_
  refine lv_istore_n (lv' := [(2, .int (0 : Int32)), (1, .int (0 : Int32)), (0, .ref (a 0))]) hx hb dX6_layAll_8 rfl hl (by decide) rfl (fun ls hl => ?_)
  exact l9  FU (si σ 51 (0 : Int32)) (0 : Int32) (0 : Int32) _ _ _ h hz (lv_sub hl [2, 1, 0] rfl)
def fX6_constantFor_b81 (σ : St) (k4 : Int32 → Int32 → Int32 → Option (Int32)) (y1 : Int32) (y3 : Int32) : Option (Int32) :=
  k4 y1 y3 (y3 + (1 : Int32))
def fX6_constantFor_s4 (σ : St) (k4 : Int32 → Int32 → Int32 → Option (Int32)) (y1 : Int32) (y2 : Int32) (y3 : Int32) : Option (Int32) :=
  (if (σ 49 0) ≤ y3 then (some y2) else ((ck (¬ (y3 < 0 ∨ 16 ≤ Int32.toNatClampNeg y3)) <| (ck (¬ (y1 < 0 ∨ 24 ≤ Int32.toNatClampNeg y1)) <| (ck (¬ (y3 < 0 ∨ 16 ≤ Int32.toNatClampNeg y3)) <| (ck (¬ (y1 < 0 ∨ 24 ≤ Int32.toNatClampNeg y1)) <| (if ((σ 10) (Int32.toNatClampNeg y3)) = ((σ 3) (Int32.toNatClampNeg y1)) then ((if (((σ 14) (Int32.toNatClampNeg y3)) - ((σ 12) (Int32.toNatClampNeg y1))) ≤ 0 then (k4 y1 y2 (y3 + (1 : Int32))) else ((if ((σ 4) (Int32.toNatClampNeg (2 : Int32))) < (((σ 14) (Int32.toNatClampNeg y3)) - ((σ 12) (Int32.toNatClampNeg y1))) then (k4 y1 y2 (y3 + (1 : Int32))) else ((if y2 = (-1 : Int32) then (fX6_constantFor_b81 σ k4 y1 y3) else ((ck (¬ (y2 < 0 ∨ 16 ≤ Int32.toNatClampNeg y2)) <| (ck (¬ (y1 < 0 ∨ 24 ≤ Int32.toNatClampNeg y1)) <| (if (((σ 14) (Int32.toNatClampNeg y2)) - ((σ 12) (Int32.toNatClampNeg y1))) ≤ (((σ 14) (Int32.toNatClampNeg y3)) - ((σ 12) (Int32.toNatClampNeg y1))) then (k4 y1 y2 (y3 + (1 : Int32))) else (fX6_constantFor_b81 σ k4 y1 y3))))))))))) else (k4 y1 y2 (y3 + (1 : Int32))))))))))
def fX6_constantFor_l4 (σ : St)  : Nat → Int32 → Int32 → Int32 → Option (Int32) :=
  itr (fX6_constantFor_s4 σ ) (fun _ _ _ => none)
def fX6_constantFor (σ : St) (x1 : Int32) : Option (Int32) :=
  fX6_constantFor_l4 σ  FU x1 (-1 : Int32) (0 : Int32)
abbrev rmX6_constantFor : Room := { frames := 0, cells := 0, slots := 0, locals := 0 }
set_option maxHeartbeats 4000000 in
set_option maxRecDepth 100000 in
theorem KX6_constantFor {l : Launch} {dC : Nat → ClassId} {dI : Nat → Nat → Nat} {cI cZ : ClassId} {a : Nat → Nat} {hh : Int64} {σ : St} {x1 : Int32} {r : Int32} (hok : okA 18 a) (h : fX6_constantFor σ x1 = some r) (sz : Nat) : Met l yX6_constantFor wsX6_constantFor rmX6_constantFor (Pz (dC, dI) cI cZ (wdM cI cZ a hh σ) sz [.ref (a 0), .int x1]) (Qzi (dC, dI) 18 a (wdM cI cZ a hh σ) sz r) 0 0 (aN 18 a sz) := by
  refine Met.ofW (cc := cX6_constantFor) (maxL := 5) (ret := (some .int)) (by decide) rfl ?_
  intro p e s m args below meth c s₁ B hml hv
  obtain ⟨hav, hsz, hP, hKK⟩ := hv
  have hx := B.exec
  have hb := B.bytes
  have hr := B.returns
  have hts := atoms_spec (ws := wsX6_constantFor) B.pre
  have hown : s.vm.findClass RX6 = some m.cls := findClass_of_methodNamed B.named
  have hlocks := B.notSynchronized
  have CF : CallFix p m c cX6_constantFor 5 s args wsX6_constantFor RX6 := ⟨hx, hb, hml, hown, hts⟩
  have hz : zz (dC, dI) 18 a (wdM cI cZ a hh σ) s.heap s.heap [] := ⟨hP, va_S.rf⟩
  have hl := lv_entry [.ref (a 0), .int x1] (n := 5) (Nat.le_of_ble_eq_true rfl)
  have hen : entryFrame m args 5 = entryFrame m ([.ref (a 0), .int x1] : List Value).toArray 5 := by rw [hav]
  rw [hen, lg_entry_eq]
  generalize (lg_sl [.ref (a 0), .int x1] ++ List.replicate (5 - (lg_sl [.ref (a 0), .int x1]).length) Slot.unset).toArray = ls at hl ⊢
  have hl : lv_has ls 5 [(0, .ref (a 0)), (1, .int x1)] := hl
  have eR : (headSpec wsX6_constantFor rmX6_constantFor).room = rmX6_constantFor := rfl
  rw [eR]
  have rt : ∀ (v : Int32) (t : St) (pc : Nat) (H : Heap) (locs : List Loc) (ls : Array Slot), decode cX6_constantFor pc = .ok (.ireturn, 1) → some v = some r → zz (dC, dI) 18 a (wdM cI cZ a hh σ) s.heap H locs → W p l e rmX6_constantFor s m args below meth c H locs 0 0 (MQ below (Qzi (dC, dI) 18 a (wdM cI cZ a hh σ) sz r) args s 0 0 (aN 18 a sz)) (F0 m pc ls [.int v]) := by
    intro v t pc H locs ls hd h hz
    cases h
    exact ziret hsz hx hb hr hlocks hz hd
  generalize (MQ below (Qzi (dC, dI) 18 a (wdM cI cZ a hh σ) sz r) args s 0 0 (aN 18 a sz)) = Q at rt ⊢
  have b81 : ∀ (k4 : Int32 → Int32 → Int32 → Option (Int32)) (hk4 : (∀ (y1 : Int32) (y2 : Int32) (y3 : Int32) (H : Heap) (locs : List Loc) (ls : Array Slot), k4 y1 y2 y3 = some r → zz (dC, dI) 18 a (wdM cI cZ a hh σ) s.heap H locs → lv_has ls 5 [(0, .ref (a 0)), (1, .int y1), (2, .int y2), (3, .int y3)] → W p l e rmX6_constantFor s m args below meth c H locs 0 0 Q (F0 m 4 ls []))) (y1 : Int32) (y3 : Int32) (H : Heap) (locs : List Loc) (ls : Array Slot), fX6_constantFor_b81 σ k4 y1 y3 = some r → zz (dC, dI) 18 a (wdM cI cZ a hh σ) s.heap H locs → lv_has ls 5 [(0, .ref (a 0)), (1, .int y1), (3, .int y3)] → W p l e rmX6_constantFor s m args below meth c H locs 0 0 Q (F0 m 81 ls []) := by
    intro k4 hk4 y1 y3 H locs ls h hz hl
    unfold fX6_constantFor_b81 at h
    refine lv_iload_n hx hb dX6_constantFor_81 rfl (lv_at hl 2 rfl) ?_
    refine lv_goto (tgt := 86) hx hb dX6_constantFor_82 (by decide) ?_
    refine lv_istore_n (lv' := [(2, .int y3), (0, .ref (a 0)), (1, .int y1), (3, .int y3)]) hx hb dX6_constantFor_86 rfl hl (by decide) rfl (fun ls hl => ?_)
    refine lv_iinc (v := (y3 + (1 : Int32))) (lv' := [(3, .int (y3 + (1 : Int32))), (2, .int y3), (0, .ref (a 0)), (1, .int y1)]) hx hb dX6_constantFor_87 hl (k := 3) rfl rfl (by decide) rfl (fun ls hl => ?_)
    refine lv_goto (tgt := 4) hx hb dX6_constantFor_90 (by decide) ?_
    exact hk4 y1 y3 (y3 + (1 : Int32)) _ _ _ h hz (lv_sub hl [2, 3, 1, 0] rfl)
  have s4 : ∀ (k4 : Int32 → Int32 → Int32 → Option (Int32)) (hk4 : (∀ (y1 : Int32) (y2 : Int32) (y3 : Int32) (H : Heap) (locs : List Loc) (ls : Array Slot), k4 y1 y2 y3 = some r → zz (dC, dI) 18 a (wdM cI cZ a hh σ) s.heap H locs → lv_has ls 5 [(0, .ref (a 0)), (1, .int y1), (2, .int y2), (3, .int y3)] → W p l e rmX6_constantFor s m args below meth c H locs 0 0 Q (F0 m 4 ls []))) (y1 : Int32) (y2 : Int32) (y3 : Int32) (H : Heap) (locs : List Loc) (ls : Array Slot), fX6_constantFor_s4 σ k4 y1 y2 y3 = some r → zz (dC, dI) 18 a (wdM cI cZ a hh σ) s.heap H locs → lv_has ls 5 [(0, .ref (a 0)), (1, .int y1), (2, .int y2), (3, .int y3)] → W p l e rmX6_constantFor s m args below meth c H locs 0 0 Q (F0 m 4 ls []) := by
    intro k4 hk4 y1 y2 y3 H locs ls h hz hl
    unfold fX6_constantFor_s4 at h
    refine lv_iload_n hx hb dX6_constantFor_4 rfl (lv_at hl 3 rfl) ?_
    refine lv_aload_n hx hb dX6_constantFor_5 rfl (lv_at hl 0 rfl) ?_
    refine va_get (v := .int (σ 49 0)) hx hb hts inX6_constantFor_X6 hown hKK.1 hz.1 0 rfl rfl 18 (by decide) (hts _ (List.mem_of_getElem? (i := 1) rfl)) (fun _ h9 => h9) rfl dX6_constantFor_6 ?_
    refine lv_icmp_ge (tgt := 93) hx hb dX6_constantFor_9 (by decide) (fun c1 => ?_) (fun c1 => ?_)
    · replace h := ite_t c1 h
      refine lv_iload_n hx hb dX6_constantFor_93 rfl (lv_at hl 2 rfl) ?_
      exact rt y2 σ 94 _ _ _ dX6_constantFor_94 h hz
    · replace h := ite_f c1 h
      refine lv_aload_n hx hb dX6_constantFor_12 rfl (lv_at hl 0 rfl) ?_
      refine va_get (v := .ref (a 14)) hx hb hts inX6_constantFor_X6 hown hKK.1 hz.1 0 rfl rfl 23 (by decide) (hts _ (List.mem_of_getElem? (i := 2) rfl)) (fun _ h9 => h9) rfl dX6_constantFor_13 ?_
      refine lv_iload_n hx hb dX6_constantFor_16 rfl (lv_at hl 3 rfl) ?_
      obtain ⟨c2, h⟩ := ck_e h
      refine va_iald (f := (σ 14)) hx hb hKK.1 hz.1 14 0 rfl rfl c2 dX6_constantFor_17 ?_
      refine lv_aload_n hx hb dX6_constantFor_18 rfl (lv_at hl 0 rfl) ?_
      refine va_get (v := .ref (a 12)) hx hb hts inX6_constantFor_X6 hown hKK.1 hz.1 0 rfl rfl 21 (by decide) (hts _ (List.mem_of_getElem? (i := 3) rfl)) (fun _ h9 => h9) rfl dX6_constantFor_19 ?_
      refine lv_iload_n hx hb dX6_constantFor_22 rfl (lv_at hl 1 rfl) ?_
      obtain ⟨c3, h⟩ := ck_e h
      refine va_iald (f := (σ 12)) hx hb hKK.1 hz.1 12 0 rfl rfl c3 dX6_constantFor_23 ?_
      refine lv_isub hx hb dX6_constantFor_24 ?_
      refine lv_istore (lv' := [(4, .int (((σ 14) (Int32.toNatClampNeg y3)) - ((σ 12) (Int32.toNatClampNeg y1)))), (0, .ref (a 0)), (1, .int y1), (2, .int y2), (3, .int y3)]) hx hb dX6_constantFor_25 hl (by decide) rfl (fun ls hl => ?_)
      refine lv_aload_n hx hb dX6_constantFor_27 rfl (lv_at hl 1 rfl) ?_
      refine va_get (v := .ref (a 10)) hx hb hts inX6_constantFor_X6 hown hKK.1 hz.1 0 rfl rfl 19 (by decide) (hts _ (List.mem_of_getElem? (i := 4) rfl)) (fun _ h9 => h9) rfl dX6_constantFor_28 ?_
      refine lv_iload_n hx hb dX6_constantFor_31 rfl (lv_at hl 4 rfl) ?_
      obtain ⟨c4, h⟩ := ck_e h
      refine va_iald (f := (σ 10)) hx hb hKK.1 hz.1 10 0 rfl rfl c4 dX6_constantFor_32 ?_
      refine lv_aload_n hx hb dX6_constantFor_33 rfl (lv_at hl 1 rfl) ?_
      refine va_get (v := .ref (a 3)) hx hb hts inX6_constantFor_X6 hown hKK.1 hz.1 0 rfl rfl 4 (by decide) (hts _ (List.mem_of_getElem? (i := 5) rfl)) (fun _ h9 => h9) rfl dX6_constantFor_34 ?_
      refine lv_iload_n hx hb dX6_constantFor_37 rfl (lv_at hl 2 rfl) ?_
      obtain ⟨c5, h⟩ := ck_e h
      refine va_iald (f := (σ 3)) hx hb hKK.1 hz.1 3 0 rfl rfl c5 dX6_constantFor_38 ?_
      refine lv_icmp_ne (tgt := 87) hx hb dX6_constantFor_39 (by decide) (fun c6 => ?_) (fun c6 => ?_)
      · replace h := ite_f c6 h
        refine lv_iinc (v := (y3 + (1 : Int32))) (lv' := [(3, .int (y3 + (1 : Int32))), (4, .int (((σ 14) (Int32.toNatClampNeg y3)) - ((σ 12) (Int32.toNatClampNeg y1)))), (0, .ref (a 0)), (1, .int y1), (2, .int y2)]) hx hb dX6_constantFor_87 hl (k := 4) rfl rfl (by decide) rfl (fun ls hl => ?_)
        refine lv_goto (tgt := 4) hx hb dX6_constantFor_90 (by decide) ?_
        exact hk4 y1 y2 (y3 + (1 : Int32)) _ _ _ h hz (lv_sub hl [2, 3, 4, 0] rfl)
      · replace h := ite_t c6 h
        refine lv_iload hx hb dX6_constantFor_42 (lv_at hl 0 rfl) ?_
        refine lv_if_le (tgt := 87) hx hb dX6_constantFor_44 (by decide) (fun c7 => ?_) (fun c7 => ?_)
        · replace h := ite_t c7 h
          refine lv_iinc (v := (y3 + (1 : Int32))) (lv' := [(3, .int (y3 + (1 : Int32))), (4, .int (((σ 14) (Int32.toNatClampNeg y3)) - ((σ 12) (Int32.toNatClampNeg y1)))), (0, .ref (a 0)), (1, .int y1), (2, .int y2)]) hx hb dX6_constantFor_87 hl (k := 4) rfl rfl (by decide) rfl (fun ls hl => ?_)
          refine lv_goto (tgt := 4) hx hb dX6_constantFor_90 (by decide) ?_
          exact hk4 y1 y2 (y3 + (1 : Int32)) _ _ _ h hz (lv_sub hl [2, 3, 4, 0] rfl)
        · replace h := ite_f c7 h
          refine lv_iload hx hb dX6_constantFor_47 (lv_at hl 0 rfl) ?_
          refine lv_aload_n hx hb dX6_constantFor_49 rfl (lv_at hl 1 rfl) ?_
          refine va_get (v := .ref (a 4)) hx hb hts inX6_constantFor_X6 hown hKK.1 hz.1 0 rfl rfl 7 (by decide) (hts _ (List.mem_of_getElem? (i := 6) rfl)) (fun _ h9 => h9) rfl dX6_constantFor_50 ?_
          refine lv_iconst (v := (2 : Int32)) hx hb dX6_constantFor_53 (by decide) ?_
          refine va_iald (f := (σ 4)) hx hb hKK.1 hz.1 4 0 rfl rfl (by decide : vp_inD (2 : Int32) 3) dX6_constantFor_54 ?_
          refine lv_icmp_gt (tgt := 87) hx hb dX6_constantFor_55 (by decide) (fun c8 => ?_) (fun c8 => ?_)
          · replace h := ite_t c8 h
            refine lv_iinc (v := (y3 + (1 : Int32))) (lv' := [(3, .int (y3 + (1 : Int32))), (4, .int (((σ 14) (Int32.toNatClampNeg y3)) - ((σ 12) (Int32.toNatClampNeg y1)))), (0, .ref (a 0)), (1, .int y1), (2, .int y2)]) hx hb dX6_constantFor_87 hl (k := 4) rfl rfl (by decide) rfl (fun ls hl => ?_)
            refine lv_goto (tgt := 4) hx hb dX6_constantFor_90 (by decide) ?_
            exact hk4 y1 y2 (y3 + (1 : Int32)) _ _ _ h hz (lv_sub hl [2, 3, 4, 0] rfl)
          · replace h := ite_f c8 h
            refine lv_iload_n hx hb dX6_constantFor_58 rfl (lv_at hl 3 rfl) ?_
            refine lv_iconst (v := (-1 : Int32)) hx hb dX6_constantFor_59 (by decide) ?_
            refine lv_icmp_eq (tgt := 81) hx hb dX6_constantFor_60 (by decide) (fun c9 => ?_) (fun c9 => ?_)
            · replace h := ite_t c9 h
              exact b81 k4 hk4 y1 y3 _ _ _ h hz (lv_sub hl [1, 2, 4] rfl)
            · replace h := ite_f c9 h
              refine lv_iload hx hb dX6_constantFor_63 (lv_at hl 0 rfl) ?_
              refine lv_aload_n hx hb dX6_constantFor_65 rfl (lv_at hl 1 rfl) ?_
              refine va_get (v := .ref (a 14)) hx hb hts inX6_constantFor_X6 hown hKK.1 hz.1 0 rfl rfl 23 (by decide) (hts _ (List.mem_of_getElem? (i := 2) rfl)) (fun _ h9 => h9) rfl dX6_constantFor_66 ?_
              refine lv_iload_n hx hb dX6_constantFor_69 rfl (lv_at hl 3 rfl) ?_
              obtain ⟨c10, h⟩ := ck_e h
              refine va_iald (f := (σ 14)) hx hb hKK.1 hz.1 14 0 rfl rfl c10 dX6_constantFor_70 ?_
              refine lv_aload_n hx hb dX6_constantFor_71 rfl (lv_at hl 1 rfl) ?_
              refine va_get (v := .ref (a 12)) hx hb hts inX6_constantFor_X6 hown hKK.1 hz.1 0 rfl rfl 21 (by decide) (hts _ (List.mem_of_getElem? (i := 3) rfl)) (fun _ h9 => h9) rfl dX6_constantFor_72 ?_
              refine lv_iload_n hx hb dX6_constantFor_75 rfl (lv_at hl 2 rfl) ?_
              obtain ⟨c11, h⟩ := ck_e h
              refine va_iald (f := (σ 12)) hx hb hKK.1 hz.1 12 0 rfl rfl c11 dX6_constantFor_76 ?_
              refine lv_isub hx hb dX6_constantFor_77 ?_
              refine lv_icmp_ge (tgt := 85) hx hb dX6_constantFor_78 (by decide) (fun c12 => ?_) (fun c12 => ?_)
              · replace h := ite_t c12 h
                refine lv_iload_n hx hb dX6_constantFor_85 rfl (lv_at hl 3 rfl) ?_
                refine lv_istore_n (lv' := [(2, .int y2), (4, .int (((σ 14) (Int32.toNatClampNeg y3)) - ((σ 12) (Int32.toNatClampNeg y1)))), (0, .ref (a 0)), (1, .int y1), (3, .int y3)]) hx hb dX6_constantFor_86 rfl hl (by decide) rfl (fun ls hl => ?_)
                refine lv_iinc (v := (y3 + (1 : Int32))) (lv' := [(3, .int (y3 + (1 : Int32))), (2, .int y2), (4, .int (((σ 14) (Int32.toNatClampNeg y3)) - ((σ 12) (Int32.toNatClampNeg y1)))), (0, .ref (a 0)), (1, .int y1)]) hx hb dX6_constantFor_87 hl (k := 4) rfl rfl (by decide) rfl (fun ls hl => ?_)
                refine lv_goto (tgt := 4) hx hb dX6_constantFor_90 (by decide) ?_
                exact hk4 y1 y2 (y3 + (1 : Int32)) _ _ _ h hz (lv_sub hl [3, 4, 1, 0] rfl)
              · replace h := ite_f c12 h
                exact b81 k4 hk4 y1 y3 _ _ _ h hz (lv_sub hl [1, 2, 4] rfl)
  have l4 : ∀  (n : Nat), ∀ (y1 : Int32) (y2 : Int32) (y3 : Int32) (H : Heap) (locs : List Loc) (ls : Array Slot), fX6_constantFor_l4 σ  n y1 y2 y3 = some r → zz (dC, dI) 18 a (wdM cI cZ a hh σ) s.heap H locs → lv_has ls 5 [(0, .ref (a 0)), (1, .int y1), (2, .int y2), (3, .int y3)] → W p l e rmX6_constantFor s m args below meth c H locs 0 0 Q (F0 m 4 ls []) := by
    intro  n
    induction n with
    | zero => intro y1 y2 y3 H locs ls h; exact nomatch h
    | succ n ih => exact s4  (fX6_constantFor_l4 σ  n) ih
  unfold fX6_constantFor at h
  refine lv_iconst (v := (-1 : Int32)) hx hb dX6_constantFor_0 (by decide) ?_
  refine lv_istore_n (lv' := [(2, .int (-1 : Int32)), (0, .ref (a 0)), (1, .int x1)]) hx hb dX6_constantFor_1 rfl hl (by decide) rfl (fun ls hl => ?_)
  refine lv_iconst (v := (0 : Int32)) hx hb dX6_constantFor_2 (by decide) ?_
  refine lv_istore_n (lv' := [(3, .int (0 : Int32)), (2, .int (-1 : Int32)), (0, .ref (a 0)), (1, .int x1)]) hx hb dX6_constantFor_3 rfl hl (by decide) rfl (fun ls hl => ?_)
  exact l4  FU x1 (-1 : Int32) (0 : Int32) _ _ _ h hz (lv_sub hl [2, 3, 1, 0] rfl)
def fX6_apart (σ : St) (x1 : Int32) (x2 : Int32) : Option (Int32) :=
  (if x2 ≤ x1 then (some (x1 - x2)) else (some (x2 - x1)))
abbrev rmX6_apart : Room := { frames := 0, cells := 0, slots := 0, locals := 0 }
set_option maxHeartbeats 4000000 in
set_option maxRecDepth 100000 in
theorem KX6_apart {l : Launch} {dC : Nat → ClassId} {dI : Nat → Nat → Nat} {cI cZ : ClassId} {a : Nat → Nat} {hh : Int64} {σ : St} {x1 : Int32} {x2 : Int32} {r : Int32} (hok : okA 18 a) (h : fX6_apart σ x1 x2 = some r) (sz : Nat) : Met l yX6_apart wsX6_apart rmX6_apart (Pz (dC, dI) cI cZ (wdM cI cZ a hh σ) sz [.int x1, .int x2]) (Qzi (dC, dI) 18 a (wdM cI cZ a hh σ) sz r) 0 0 (aN 18 a sz) := by
  refine Met.ofW (cc := cX6_apart) (maxL := 2) (ret := (some .int)) (by decide) rfl ?_
  intro p e s m args below meth c s₁ B hml hv
  obtain ⟨hav, hsz, hP, hKK⟩ := hv
  have hx := B.exec
  have hb := B.bytes
  have hr := B.returns
  have hts := atoms_spec (ws := wsX6_apart) B.pre
  have hown : s.vm.findClass RX6 = some m.cls := findClass_of_methodNamed B.named
  have hlocks := B.notSynchronized
  have CF : CallFix p m c cX6_apart 2 s args wsX6_apart RX6 := ⟨hx, hb, hml, hown, hts⟩
  have hz : zz (dC, dI) 18 a (wdM cI cZ a hh σ) s.heap s.heap [] := ⟨hP, va_S.rf⟩
  have hl := lv_entry [.int x1, .int x2] (n := 2) (Nat.le_of_ble_eq_true rfl)
  have hen : entryFrame m args 2 = entryFrame m ([.int x1, .int x2] : List Value).toArray 2 := by rw [hav]
  rw [hen, lg_entry_eq]
  generalize (lg_sl [.int x1, .int x2] ++ List.replicate (2 - (lg_sl [.int x1, .int x2]).length) Slot.unset).toArray = ls at hl ⊢
  have hl : lv_has ls 2 [(0, .int x1), (1, .int x2)] := hl
  have eR : (headSpec wsX6_apart rmX6_apart).room = rmX6_apart := rfl
  rw [eR]
  have rt : ∀ (v : Int32) (t : St) (pc : Nat) (H : Heap) (locs : List Loc) (ls : Array Slot), decode cX6_apart pc = .ok (.ireturn, 1) → some v = some r → zz (dC, dI) 18 a (wdM cI cZ a hh σ) s.heap H locs → W p l e rmX6_apart s m args below meth c H locs 0 0 (MQ below (Qzi (dC, dI) 18 a (wdM cI cZ a hh σ) sz r) args s 0 0 (aN 18 a sz)) (F0 m pc ls [.int v]) := by
    intro v t pc H locs ls hd h hz
    cases h
    exact ziret hsz hx hb hr hlocks hz hd
  generalize (MQ below (Qzi (dC, dI) 18 a (wdM cI cZ a hh σ) sz r) args s 0 0 (aN 18 a sz)) = Q at rt ⊢
  unfold fX6_apart at h
  refine lv_iload_n hx hb dX6_apart_0 rfl (lv_at hl 0 rfl) ?_
  refine lv_iload_n hx hb dX6_apart_1 rfl (lv_at hl 1 rfl) ?_
  refine lv_icmp_ge (tgt := 11) hx hb dX6_apart_2 (by decide) (fun c1 => ?_) (fun c1 => ?_)
  · replace h := ite_t c1 h
    refine lv_iload_n hx hb dX6_apart_11 rfl (lv_at hl 0 rfl) ?_
    refine lv_iload_n hx hb dX6_apart_12 rfl (lv_at hl 1 rfl) ?_
    refine lv_isub hx hb dX6_apart_13 ?_
    exact rt (x1 - x2) σ 14 _ _ _ dX6_apart_14 h hz
  · replace h := ite_f c1 h
    refine lv_iload_n hx hb dX6_apart_5 rfl (lv_at hl 1 rfl) ?_
    refine lv_iload_n hx hb dX6_apart_6 rfl (lv_at hl 0 rfl) ?_
    refine lv_isub hx hb dX6_apart_7 ?_
    refine lv_goto (tgt := 14) hx hb dX6_apart_8 (by decide) ?_
    exact rt (x2 - x1) σ 14 _ _ _ dX6_apart_14 h hz
def fX6_reachesLabel (σ : St) (x1 : Int32) (x2 : Int32) : Option (Int32) :=
  (ck (¬ (x2 < 0 ∨ 8 ≤ Int32.toNatClampNeg x2)) <| (bd1 (fX6_apart σ x1 ((σ 17) (Int32.toNatClampNeg x2))) fun r2 => (if ((σ 4) (Int32.toNatClampNeg (1 : Int32))) < r2 then (some (0 : Int32)) else (some (1 : Int32)))))
abbrev rmX6_reachesLabel : Room := { frames := 1, cells := 0, slots := 0, locals := 21 }
set_option maxHeartbeats 4000000 in
set_option maxRecDepth 100000 in
theorem KX6_reachesLabel {l : Launch} {dC : Nat → ClassId} {dI : Nat → Nat → Nat} {cI cZ : ClassId} {a : Nat → Nat} {hh : Int64} {σ : St} {x1 : Int32} {x2 : Int32} {r : Int32} (hok : okA 18 a) (h : fX6_reachesLabel σ x1 x2 = some r) (sz : Nat) : Met l yX6_reachesLabel wsX6_reachesLabel rmX6_reachesLabel (Pz (dC, dI) cI cZ (wdM cI cZ a hh σ) sz [.ref (a 0), .int x1, .int x2]) (Qzi (dC, dI) 18 a (wdM cI cZ a hh σ) sz r) 0 0 (aN 18 a sz) := by
  refine Met.ofW (cc := cX6_reachesLabel) (maxL := 3) (ret := (some .boolean)) (by decide) rfl ?_
  intro p e s m args below meth c s₁ B hml hv
  obtain ⟨hav, hsz, hP, hKK⟩ := hv
  have hx := B.exec
  have hb := B.bytes
  have hr := B.returns
  have hts := atoms_spec (ws := wsX6_reachesLabel) B.pre
  have hown : s.vm.findClass RX6 = some m.cls := findClass_of_methodNamed B.named
  have hlocks := B.notSynchronized
  have CF : CallFix p m c cX6_reachesLabel 3 s args wsX6_reachesLabel RX6 := ⟨hx, hb, hml, hown, hts⟩
  have hz : zz (dC, dI) 18 a (wdM cI cZ a hh σ) s.heap s.heap [] := ⟨hP, va_S.rf⟩
  have hl := lv_entry [.ref (a 0), .int x1, .int x2] (n := 3) (Nat.le_of_ble_eq_true rfl)
  have hen : entryFrame m args 3 = entryFrame m ([.ref (a 0), .int x1, .int x2] : List Value).toArray 3 := by rw [hav]
  rw [hen, lg_entry_eq]
  generalize (lg_sl [.ref (a 0), .int x1, .int x2] ++ List.replicate (3 - (lg_sl [.ref (a 0), .int x1, .int x2]).length) Slot.unset).toArray = ls at hl ⊢
  have hl : lv_has ls 3 [(0, .ref (a 0)), (1, .int x1), (2, .int x2)] := hl
  have eR : (headSpec wsX6_reachesLabel rmX6_reachesLabel).room = rmX6_reachesLabel := rfl
  rw [eR]
  have rt : ∀ (v : Int32) (t : St) (pc : Nat) (H : Heap) (locs : List Loc) (ls : Array Slot), decode cX6_reachesLabel pc = .ok (.ireturn, 1) → some v = some r → zz (dC, dI) 18 a (wdM cI cZ a hh σ) s.heap H locs → (v = 0 ∨ v = 1) → W p l e rmX6_reachesLabel s m args below meth c H locs 0 0 (MQ below (Qzi (dC, dI) 18 a (wdM cI cZ a hh σ) sz r) args s 0 0 (aN 18 a sz)) (F0 m pc ls [.int v]) := by
    intro v t pc H locs ls hd h hz hv
    cases h
    exact zzret hsz hx hb hr hlocks hv hz hd
  generalize (MQ below (Qzi (dC, dI) 18 a (wdM cI cZ a hh σ) sz r) args s 0 0 (aN 18 a sz)) = Q at rt ⊢
  unfold fX6_reachesLabel at h
  refine lv_iload_n hx hb dX6_reachesLabel_0 rfl (lv_at hl 1 rfl) ?_
  refine lv_aload_n hx hb dX6_reachesLabel_1 rfl (lv_at hl 0 rfl) ?_
  refine va_get (v := .ref (a 17)) hx hb hts inX6_reachesLabel_X6 hown hKK.1 hz.1 0 rfl rfl 26 (by decide) (hts _ (List.mem_of_getElem? (i := 1) rfl)) (fun _ h9 => h9) rfl dX6_reachesLabel_2 ?_
  refine lv_iload_n hx hb dX6_reachesLabel_5 rfl (lv_at hl 2 rfl) ?_
  obtain ⟨c1, h⟩ := ck_e h
  refine va_iald (f := (σ 17)) hx hb hKK.1 hz.1 17 0 rfl rfl c1 dX6_reachesLabel_6 ?_
  obtain ⟨r2, e4, h⟩ := bd1_e h
  refine zcallSi (As := [.int x1, .int ((σ 17) (Int32.toNatClampNeg x2))]) (rest := []) CF hKK (KX6_apart (dC := dC) (dI := dI) (cI := cI) (cZ := cZ) (a := a) hok e4) (va_cwS 2 hts gX6_reachesLabel_X6_apart rfl rfl rfl cdX6_apart.2 ⟨Nat.le_of_ble_eq_true rfl, Nat.le_of_ble_eq_true rfl⟩) hz rfl hl.1 rfl (Nat.le_of_ble_eq_true rfl) dX6_reachesLabel_7 ⟨Nat.le_refl _, Nat.le_refl _⟩ (fun H locs hz => ?_)
  refine lv_aload_n hx hb dX6_reachesLabel_10 rfl (lv_at hl 0 rfl) ?_
  refine va_get (v := .ref (a 4)) hx hb hts inX6_reachesLabel_X6 hown hKK.1 hz.1 0 rfl rfl 7 (by decide) (hts _ (List.mem_of_getElem? (i := 2) rfl)) (fun _ h9 => h9) rfl dX6_reachesLabel_11 ?_
  refine lv_iconst (v := (1 : Int32)) hx hb dX6_reachesLabel_14 (by decide) ?_
  refine va_iald (f := (σ 4)) hx hb hKK.1 hz.1 4 0 rfl rfl (by decide : vp_inD (1 : Int32) 3) dX6_reachesLabel_15 ?_
  refine lv_icmp_gt (tgt := 23) hx hb dX6_reachesLabel_16 (by decide) (fun c5 => ?_) (fun c5 => ?_)
  · replace h := ite_t c5 h
    refine lv_iconst (v := (0 : Int32)) hx hb dX6_reachesLabel_23 (by decide) ?_
    exact rt (0 : Int32) σ 24 _ _ _ dX6_reachesLabel_24 h hz (Or.inl rfl)
  · replace h := ite_f c5 h
    refine lv_iconst (v := (1 : Int32)) hx hb dX6_reachesLabel_19 (by decide) ?_
    refine lv_goto (tgt := 24) hx hb dX6_reachesLabel_20 (by decide) ?_
    exact rt (1 : Int32) σ 24 _ _ _ dX6_reachesLabel_24 h hz (Or.inr rfl)
def fX6_islandFor_b135 (σ : St) (k5 : Int32 → Int32 → Int32 → Int32 → Option (Int32)) (y1 : Int32) (y2 : Int32) (y4 : Int32) : Option (Int32) :=
  k5 y1 y2 y4 (y4 + (1 : Int32))
def fX6_islandFor_b103 (σ : St) (k5 : Int32 → Int32 → Int32 → Int32 → Option (Int32)) (y1 : Int32) (y2 : Int32) (y3 : Int32) (y4 : Int32) (y5 : Int32) (t0 : Int32) : Option (Int32) :=
  (if y5 < t0 then (fX6_islandFor_b135 σ k5 y1 y2 y4) else ((if y5 = t0 then ((ck (¬ (y4 < 0 ∨ 12 ≤ Int32.toNatClampNeg y4)) <| (ck (¬ (y3 < 0 ∨ 12 ≤ Int32.toNatClampNeg y3)) <| (if ((σ 13) (Int32.toNatClampNeg y3)) ≤ ((σ 13) (Int32.toNatClampNeg y4)) then (k5 y1 y2 y3 (y4 + (1 : Int32))) else (fX6_islandFor_b135 σ k5 y1 y2 y4))))) else (k5 y1 y2 y3 (y4 + (1 : Int32))))))
def fX6_islandFor_s5 (σ : St) (k5 : Int32 → Int32 → Int32 → Int32 → Option (Int32)) (y1 : Int32) (y2 : Int32) (y3 : Int32) (y4 : Int32) : Option (Int32) :=
  (if (σ 48 0) ≤ y4 then (some y3) else ((ck (¬ (y4 < 0 ∨ 12 ≤ Int32.toNatClampNeg y4)) <| (ck (¬ (y2 < 0 ∨ 8 ≤ Int32.toNatClampNeg y2)) <| (bd1 (fX6_apart σ ((σ 13) (Int32.toNatClampNeg y4)) ((σ 17) (Int32.toNatClampNeg y2))) fun r4 => (ck (¬ (y4 < 0 ∨ 12 ≤ Int32.toNatClampNeg y4)) <| (if ((σ 8) (Int32.toNatClampNeg y4)) = y2 then ((ck (¬ (y4 < 0 ∨ 12 ≤ Int32.toNatClampNeg y4)) <| (bd1 (fX6_apart σ ((σ 13) (Int32.toNatClampNeg y4)) y1) fun r10 => (if ((σ 4) (Int32.toNatClampNeg (1 : Int32))) < r10 then (k5 y1 y2 y3 (y4 + (1 : Int32))) else ((ck (¬ (y2 < 0 ∨ 8 ≤ Int32.toNatClampNeg y2)) <| (bd1 (fX6_apart σ y1 ((σ 17) (Int32.toNatClampNeg y2))) fun r15 => (if r15 ≤ r4 then (k5 y1 y2 y3 (y4 + (1 : Int32))) else ((if y3 = (-1 : Int32) then (fX6_islandFor_b103 σ k5 y1 y2 y3 y4 r4 (1048576 : Int32)) else ((ck (¬ (y3 < 0 ∨ 12 ≤ Int32.toNatClampNeg y3)) <| (ck (¬ (y2 < 0 ∨ 8 ≤ Int32.toNatClampNeg y2)) <| (bd1 (fX6_apart σ ((σ 13) (Int32.toNatClampNeg y3)) ((σ 17) (Int32.toNatClampNeg y2))) fun r22 => fX6_islandFor_b103 σ k5 y1 y2 y3 y4 r4 r22)))))))))))))) else (k5 y1 y2 y3 (y4 + (1 : Int32))))))))))
def fX6_islandFor_l5 (σ : St)  : Nat → Int32 → Int32 → Int32 → Int32 → Option (Int32) :=
  itr (fX6_islandFor_s5 σ ) (fun _ _ _ _ => none)
def fX6_islandFor (σ : St) (x1 : Int32) (x2 : Int32) : Option (Int32) :=
  fX6_islandFor_l5 σ  FU x1 x2 (-1 : Int32) (0 : Int32)
abbrev rmX6_islandFor : Room := { frames := 1, cells := 0, slots := 0, locals := 21 }
set_option maxHeartbeats 4000000 in
set_option maxRecDepth 100000 in
theorem KX6_islandFor {l : Launch} {dC : Nat → ClassId} {dI : Nat → Nat → Nat} {cI cZ : ClassId} {a : Nat → Nat} {hh : Int64} {σ : St} {x1 : Int32} {x2 : Int32} {r : Int32} (hok : okA 18 a) (h : fX6_islandFor σ x1 x2 = some r) (sz : Nat) : Met l yX6_islandFor wsX6_islandFor rmX6_islandFor (Pz (dC, dI) cI cZ (wdM cI cZ a hh σ) sz [.ref (a 0), .int x1, .int x2]) (Qzi (dC, dI) 18 a (wdM cI cZ a hh σ) sz r) 0 0 (aN 18 a sz) := by
  refine Met.ofW (cc := cX6_islandFor) (maxL := 7) (ret := (some .int)) (by decide) rfl ?_
  intro p e s m args below meth c s₁ B hml hv
  obtain ⟨hav, hsz, hP, hKK⟩ := hv
  have hx := B.exec
  have hb := B.bytes
  have hr := B.returns
  have hts := atoms_spec (ws := wsX6_islandFor) B.pre
  have hown : s.vm.findClass RX6 = some m.cls := findClass_of_methodNamed B.named
  have hlocks := B.notSynchronized
  have CF : CallFix p m c cX6_islandFor 7 s args wsX6_islandFor RX6 := ⟨hx, hb, hml, hown, hts⟩
  have hz : zz (dC, dI) 18 a (wdM cI cZ a hh σ) s.heap s.heap [] := ⟨hP, va_S.rf⟩
  have hl := lv_entry [.ref (a 0), .int x1, .int x2] (n := 7) (Nat.le_of_ble_eq_true rfl)
  have hen : entryFrame m args 7 = entryFrame m ([.ref (a 0), .int x1, .int x2] : List Value).toArray 7 := by rw [hav]
  rw [hen, lg_entry_eq]
  generalize (lg_sl [.ref (a 0), .int x1, .int x2] ++ List.replicate (7 - (lg_sl [.ref (a 0), .int x1, .int x2]).length) Slot.unset).toArray = ls at hl ⊢
  have hl : lv_has ls 7 [(0, .ref (a 0)), (1, .int x1), (2, .int x2)] := hl
  have eR : (headSpec wsX6_islandFor rmX6_islandFor).room = rmX6_islandFor := rfl
  rw [eR]
  have rt : ∀ (v : Int32) (t : St) (pc : Nat) (H : Heap) (locs : List Loc) (ls : Array Slot), decode cX6_islandFor pc = .ok (.ireturn, 1) → some v = some r → zz (dC, dI) 18 a (wdM cI cZ a hh σ) s.heap H locs → W p l e rmX6_islandFor s m args below meth c H locs 0 0 (MQ below (Qzi (dC, dI) 18 a (wdM cI cZ a hh σ) sz r) args s 0 0 (aN 18 a sz)) (F0 m pc ls [.int v]) := by
    intro v t pc H locs ls hd h hz
    cases h
    exact ziret hsz hx hb hr hlocks hz hd
  generalize (MQ below (Qzi (dC, dI) 18 a (wdM cI cZ a hh σ) sz r) args s 0 0 (aN 18 a sz)) = Q at rt ⊢
  have b135 : ∀ (k5 : Int32 → Int32 → Int32 → Int32 → Option (Int32)) (hk5 : (∀ (y1 : Int32) (y2 : Int32) (y3 : Int32) (y4 : Int32) (H : Heap) (locs : List Loc) (ls : Array Slot), k5 y1 y2 y3 y4 = some r → zz (dC, dI) 18 a (wdM cI cZ a hh σ) s.heap H locs → lv_has ls 7 [(0, .ref (a 0)), (1, .int y1), (2, .int y2), (3, .int y3), (4, .int y4)] → W p l e rmX6_islandFor s m args below meth c H locs 0 0 Q (F0 m 5 ls []))) (y1 : Int32) (y2 : Int32) (y4 : Int32) (H : Heap) (locs : List Loc) (ls : Array Slot), fX6_islandFor_b135 σ k5 y1 y2 y4 = some r → zz (dC, dI) 18 a (wdM cI cZ a hh σ) s.heap H locs → lv_has ls 7 [(0, .ref (a 0)), (1, .int y1), (2, .int y2), (4, .int y4)] → W p l e rmX6_islandFor s m args below meth c H locs 0 0 Q (F0 m 135 ls []) := by
    intro k5 hk5 y1 y2 y4 H locs ls h hz hl
    unfold fX6_islandFor_b135 at h
    refine lv_iload hx hb dX6_islandFor_135 (lv_at hl 3 rfl) ?_
    refine lv_goto (tgt := 141) hx hb dX6_islandFor_137 (by decide) ?_
    refine lv_istore_n (lv' := [(3, .int y4), (0, .ref (a 0)), (1, .int y1), (2, .int y2), (4, .int y4)]) hx hb dX6_islandFor_141 rfl hl (by decide) rfl (fun ls hl => ?_)
    refine lv_iinc (v := (y4 + (1 : Int32))) (lv' := [(4, .int (y4 + (1 : Int32))), (3, .int y4), (0, .ref (a 0)), (1, .int y1), (2, .int y2)]) hx hb dX6_islandFor_142 hl (k := 4) rfl rfl (by decide) rfl (fun ls hl => ?_)
    refine lv_goto (tgt := 5) hx hb dX6_islandFor_145 (by decide) ?_
    exact hk5 y1 y2 y4 (y4 + (1 : Int32)) _ _ _ h hz (lv_sub hl [2, 3, 4, 1, 0] rfl)
  have b103 : ∀ (k5 : Int32 → Int32 → Int32 → Int32 → Option (Int32)) (hk5 : (∀ (y1 : Int32) (y2 : Int32) (y3 : Int32) (y4 : Int32) (H : Heap) (locs : List Loc) (ls : Array Slot), k5 y1 y2 y3 y4 = some r → zz (dC, dI) 18 a (wdM cI cZ a hh σ) s.heap H locs → lv_has ls 7 [(0, .ref (a 0)), (1, .int y1), (2, .int y2), (3, .int y3), (4, .int y4)] → W p l e rmX6_islandFor s m args below meth c H locs 0 0 Q (F0 m 5 ls []))) (y1 : Int32) (y2 : Int32) (y3 : Int32) (y4 : Int32) (y5 : Int32) (t0 : Int32) (H : Heap) (locs : List Loc) (ls : Array Slot), fX6_islandFor_b103 σ k5 y1 y2 y3 y4 y5 t0 = some r → zz (dC, dI) 18 a (wdM cI cZ a hh σ) s.heap H locs → lv_has ls 7 [(0, .ref (a 0)), (1, .int y1), (2, .int y2), (3, .int y3), (4, .int y4), (5, .int y5)] → W p l e rmX6_islandFor s m args below meth c H locs 0 0 Q (F0 m 103 ls [.int t0]) := by
    intro k5 hk5 y1 y2 y3 y4 y5 t0 H locs ls h hz hl
    unfold fX6_islandFor_b103 at h
    refine lv_istore (lv' := [(6, .int t0), (0, .ref (a 0)), (1, .int y1), (2, .int y2), (3, .int y3), (4, .int y4), (5, .int y5)]) hx hb dX6_islandFor_103 hl (by decide) rfl (fun ls hl => ?_)
    refine lv_iload hx hb dX6_islandFor_105 (lv_at hl 6 rfl) ?_
    refine lv_iload hx hb dX6_islandFor_107 (lv_at hl 0 rfl) ?_
    refine lv_icmp_lt (tgt := 135) hx hb dX6_islandFor_109 (by decide) (fun c25 => ?_) (fun c25 => ?_)
    · replace h := ite_t c25 h
      exact b135 k5 hk5 y1 y2 y4 _ _ _ h hz (lv_sub hl [1, 2, 3, 5] rfl)
    · replace h := ite_f c25 h
      refine lv_iload hx hb dX6_islandFor_112 (lv_at hl 6 rfl) ?_
      refine lv_iload hx hb dX6_islandFor_114 (lv_at hl 0 rfl) ?_
      refine lv_icmp_ne (tgt := 140) hx hb dX6_islandFor_116 (by decide) (fun c26 => ?_) (fun c26 => ?_)
      · replace h := ite_f c26 h
        refine lv_iload_n hx hb dX6_islandFor_140 rfl (lv_at hl 4 rfl) ?_
        refine lv_istore_n (lv' := [(3, .int y3), (6, .int t0), (0, .ref (a 0)), (1, .int y1), (2, .int y2), (4, .int y4), (5, .int y5)]) hx hb dX6_islandFor_141 rfl hl (by decide) rfl (fun ls hl => ?_)
        refine lv_iinc (v := (y4 + (1 : Int32))) (lv' := [(4, .int (y4 + (1 : Int32))), (3, .int y3), (6, .int t0), (0, .ref (a 0)), (1, .int y1), (2, .int y2), (5, .int y5)]) hx hb dX6_islandFor_142 hl (k := 5) rfl rfl (by decide) rfl (fun ls hl => ?_)
        refine lv_goto (tgt := 5) hx hb dX6_islandFor_145 (by decide) ?_
        exact hk5 y1 y2 y3 (y4 + (1 : Int32)) _ _ _ h hz (lv_sub hl [3, 4, 5, 1, 0] rfl)
      · replace h := ite_t c26 h
        refine lv_aload_n hx hb dX6_islandFor_119 rfl (lv_at hl 1 rfl) ?_
        refine va_get (v := .ref (a 13)) hx hb hts inX6_islandFor_X6 hown hKK.1 hz.1 0 rfl rfl 22 (by decide) (hts _ (List.mem_of_getElem? (i := 2) rfl)) (fun _ h9 => h9) rfl dX6_islandFor_120 ?_
        refine lv_iload hx hb dX6_islandFor_123 (lv_at hl 5 rfl) ?_
        obtain ⟨c27, h⟩ := ck_e h
        refine va_iald (f := (σ 13)) hx hb hKK.1 hz.1 13 0 rfl rfl c27 dX6_islandFor_125 ?_
        refine lv_aload_n hx hb dX6_islandFor_126 rfl (lv_at hl 1 rfl) ?_
        refine va_get (v := .ref (a 13)) hx hb hts inX6_islandFor_X6 hown hKK.1 hz.1 0 rfl rfl 22 (by decide) (hts _ (List.mem_of_getElem? (i := 2) rfl)) (fun _ h9 => h9) rfl dX6_islandFor_127 ?_
        refine lv_iload_n hx hb dX6_islandFor_130 rfl (lv_at hl 4 rfl) ?_
        obtain ⟨c28, h⟩ := ck_e h
        refine va_iald (f := (σ 13)) hx hb hKK.1 hz.1 13 0 rfl rfl c28 dX6_islandFor_131 ?_
        refine lv_icmp_ge (tgt := 140) hx hb dX6_islandFor_132 (by decide) (fun c29 => ?_) (fun c29 => ?_)
        · replace h := ite_t c29 h
          refine lv_iload_n hx hb dX6_islandFor_140 rfl (lv_at hl 4 rfl) ?_
          refine lv_istore_n (lv' := [(3, .int y3), (6, .int t0), (0, .ref (a 0)), (1, .int y1), (2, .int y2), (4, .int y4), (5, .int y5)]) hx hb dX6_islandFor_141 rfl hl (by decide) rfl (fun ls hl => ?_)
          refine lv_iinc (v := (y4 + (1 : Int32))) (lv' := [(4, .int (y4 + (1 : Int32))), (3, .int y3), (6, .int t0), (0, .ref (a 0)), (1, .int y1), (2, .int y2), (5, .int y5)]) hx hb dX6_islandFor_142 hl (k := 5) rfl rfl (by decide) rfl (fun ls hl => ?_)
          refine lv_goto (tgt := 5) hx hb dX6_islandFor_145 (by decide) ?_
          exact hk5 y1 y2 y3 (y4 + (1 : Int32)) _ _ _ h hz (lv_sub hl [3, 4, 5, 1, 0] rfl)
        · replace h := ite_f c29 h
          exact b135 k5 hk5 y1 y2 y4 _ _ _ h hz (lv_sub hl [1, 2, 3, 5] rfl)
  have s5 : ∀ (k5 : Int32 → Int32 → Int32 → Int32 → Option (Int32)) (hk5 : (∀ (y1 : Int32) (y2 : Int32) (y3 : Int32) (y4 : Int32) (H : Heap) (locs : List Loc) (ls : Array Slot), k5 y1 y2 y3 y4 = some r → zz (dC, dI) 18 a (wdM cI cZ a hh σ) s.heap H locs → lv_has ls 7 [(0, .ref (a 0)), (1, .int y1), (2, .int y2), (3, .int y3), (4, .int y4)] → W p l e rmX6_islandFor s m args below meth c H locs 0 0 Q (F0 m 5 ls []))) (y1 : Int32) (y2 : Int32) (y3 : Int32) (y4 : Int32) (H : Heap) (locs : List Loc) (ls : Array Slot), fX6_islandFor_s5 σ k5 y1 y2 y3 y4 = some r → zz (dC, dI) 18 a (wdM cI cZ a hh σ) s.heap H locs → lv_has ls 7 [(0, .ref (a 0)), (1, .int y1), (2, .int y2), (3, .int y3), (4, .int y4)] → W p l e rmX6_islandFor s m args below meth c H locs 0 0 Q (F0 m 5 ls []) := by
    intro k5 hk5 y1 y2 y3 y4 H locs ls h hz hl
    unfold fX6_islandFor_s5 at h
    refine lv_iload hx hb dX6_islandFor_5 (lv_at hl 4 rfl) ?_
    refine lv_aload_n hx hb dX6_islandFor_7 rfl (lv_at hl 0 rfl) ?_
    refine va_get (v := .int (σ 48 0)) hx hb hts inX6_islandFor_X6 hown hKK.1 hz.1 0 rfl rfl 15 (by decide) (hts _ (List.mem_of_getElem? (i := 1) rfl)) (fun _ h9 => h9) rfl dX6_islandFor_8 ?_
    refine lv_icmp_ge (tgt := 148) hx hb dX6_islandFor_11 (by decide) (fun c1 => ?_) (fun c1 => ?_)
    · replace h := ite_t c1 h
      refine lv_iload_n hx hb dX6_islandFor_148 rfl (lv_at hl 3 rfl) ?_
      exact rt y3 σ 149 _ _ _ dX6_islandFor_149 h hz
    · replace h := ite_f c1 h
      refine lv_aload_n hx hb dX6_islandFor_14 rfl (lv_at hl 0 rfl) ?_
      refine va_get (v := .ref (a 13)) hx hb hts inX6_islandFor_X6 hown hKK.1 hz.1 0 rfl rfl 22 (by decide) (hts _ (List.mem_of_getElem? (i := 2) rfl)) (fun _ h9 => h9) rfl dX6_islandFor_15 ?_
      refine lv_iload hx hb dX6_islandFor_18 (lv_at hl 4 rfl) ?_
      obtain ⟨c2, h⟩ := ck_e h
      refine va_iald (f := (σ 13)) hx hb hKK.1 hz.1 13 0 rfl rfl c2 dX6_islandFor_20 ?_
      refine lv_aload_n hx hb dX6_islandFor_21 rfl (lv_at hl 0 rfl) ?_
      refine va_get (v := .ref (a 17)) hx hb hts inX6_islandFor_X6 hown hKK.1 hz.1 0 rfl rfl 26 (by decide) (hts _ (List.mem_of_getElem? (i := 3) rfl)) (fun _ h9 => h9) rfl dX6_islandFor_22 ?_
      refine lv_iload_n hx hb dX6_islandFor_25 rfl (lv_at hl 2 rfl) ?_
      obtain ⟨c3, h⟩ := ck_e h
      refine va_iald (f := (σ 17)) hx hb hKK.1 hz.1 17 0 rfl rfl c3 dX6_islandFor_26 ?_
      obtain ⟨r4, e6, h⟩ := bd1_e h
      refine zcallSi (As := [.int ((σ 13) (Int32.toNatClampNeg y4)), .int ((σ 17) (Int32.toNatClampNeg y2))]) (rest := []) CF hKK (KX6_apart (dC := dC) (dI := dI) (cI := cI) (cZ := cZ) (a := a) hok e6) (va_cwS 2 hts gX6_islandFor_X6_apart rfl rfl rfl cdX6_apart.2 ⟨Nat.le_of_ble_eq_true rfl, Nat.le_of_ble_eq_true rfl⟩) hz rfl hl.1 rfl (Nat.le_of_ble_eq_true rfl) dX6_islandFor_27 ⟨Nat.le_refl _, Nat.le_refl _⟩ (fun H locs hz => ?_)
      refine lv_istore (lv' := [(5, .int r4), (0, .ref (a 0)), (1, .int y1), (2, .int y2), (3, .int y3), (4, .int y4)]) hx hb dX6_islandFor_30 hl (by decide) rfl (fun ls hl => ?_)
      refine lv_aload_n hx hb dX6_islandFor_32 rfl (lv_at hl 1 rfl) ?_
      refine va_get (v := .ref (a 8)) hx hb hts inX6_islandFor_X6 hown hKK.1 hz.1 0 rfl rfl 16 (by decide) (hts _ (List.mem_of_getElem? (i := 4) rfl)) (fun _ h9 => h9) rfl dX6_islandFor_33 ?_
      refine lv_iload hx hb dX6_islandFor_36 (lv_at hl 5 rfl) ?_
      obtain ⟨c7, h⟩ := ck_e h
      refine va_iald (f := (σ 8)) hx hb hKK.1 hz.1 8 0 rfl rfl c7 dX6_islandFor_38 ?_
      refine lv_iload_n hx hb dX6_islandFor_39 rfl (lv_at hl 3 rfl) ?_
      refine lv_icmp_ne (tgt := 142) hx hb dX6_islandFor_40 (by decide) (fun c8 => ?_) (fun c8 => ?_)
      · replace h := ite_f c8 h
        refine lv_iinc (v := (y4 + (1 : Int32))) (lv' := [(4, .int (y4 + (1 : Int32))), (5, .int r4), (0, .ref (a 0)), (1, .int y1), (2, .int y2), (3, .int y3)]) hx hb dX6_islandFor_142 hl (k := 5) rfl rfl (by decide) rfl (fun ls hl => ?_)
        refine lv_goto (tgt := 5) hx hb dX6_islandFor_145 (by decide) ?_
        exact hk5 y1 y2 y3 (y4 + (1 : Int32)) _ _ _ h hz (lv_sub hl [2, 3, 4, 5, 0] rfl)
      · replace h := ite_t c8 h
        refine lv_aload_n hx hb dX6_islandFor_43 rfl (lv_at hl 1 rfl) ?_
        refine va_get (v := .ref (a 13)) hx hb hts inX6_islandFor_X6 hown hKK.1 hz.1 0 rfl rfl 22 (by decide) (hts _ (List.mem_of_getElem? (i := 2) rfl)) (fun _ h9 => h9) rfl dX6_islandFor_44 ?_
        refine lv_iload hx hb dX6_islandFor_47 (lv_at hl 5 rfl) ?_
        obtain ⟨c9, h⟩ := ck_e h
        refine va_iald (f := (σ 13)) hx hb hKK.1 hz.1 13 0 rfl rfl c9 dX6_islandFor_49 ?_
        refine lv_iload_n hx hb dX6_islandFor_50 rfl (lv_at hl 2 rfl) ?_
        obtain ⟨r10, e12, h⟩ := bd1_e h
        refine zcallSi (As := [.int ((σ 13) (Int32.toNatClampNeg y4)), .int y1]) (rest := []) CF hKK (KX6_apart (dC := dC) (dI := dI) (cI := cI) (cZ := cZ) (a := a) hok e12) (va_cwS 2 hts gX6_islandFor_X6_apart rfl rfl rfl cdX6_apart.2 ⟨Nat.le_of_ble_eq_true rfl, Nat.le_of_ble_eq_true rfl⟩) hz rfl hl.1 rfl (Nat.le_of_ble_eq_true rfl) dX6_islandFor_51 ⟨Nat.le_refl _, Nat.le_refl _⟩ (fun H locs hz => ?_)
        refine lv_aload_n hx hb dX6_islandFor_54 rfl (lv_at hl 1 rfl) ?_
        refine va_get (v := .ref (a 4)) hx hb hts inX6_islandFor_X6 hown hKK.1 hz.1 0 rfl rfl 7 (by decide) (hts _ (List.mem_of_getElem? (i := 5) rfl)) (fun _ h9 => h9) rfl dX6_islandFor_55 ?_
        refine lv_iconst (v := (1 : Int32)) hx hb dX6_islandFor_58 (by decide) ?_
        refine va_iald (f := (σ 4)) hx hb hKK.1 hz.1 4 0 rfl rfl (by decide : vp_inD (1 : Int32) 3) dX6_islandFor_59 ?_
        refine lv_icmp_gt (tgt := 142) hx hb dX6_islandFor_60 (by decide) (fun c13 => ?_) (fun c13 => ?_)
        · replace h := ite_t c13 h
          refine lv_iinc (v := (y4 + (1 : Int32))) (lv' := [(4, .int (y4 + (1 : Int32))), (5, .int r4), (0, .ref (a 0)), (1, .int y1), (2, .int y2), (3, .int y3)]) hx hb dX6_islandFor_142 hl (k := 5) rfl rfl (by decide) rfl (fun ls hl => ?_)
          refine lv_goto (tgt := 5) hx hb dX6_islandFor_145 (by decide) ?_
          exact hk5 y1 y2 y3 (y4 + (1 : Int32)) _ _ _ h hz (lv_sub hl [2, 3, 4, 5, 0] rfl)
        · replace h := ite_f c13 h
          refine lv_iload hx hb dX6_islandFor_63 (lv_at hl 0 rfl) ?_
          refine lv_iload_n hx hb dX6_islandFor_65 rfl (lv_at hl 2 rfl) ?_
          refine lv_aload_n hx hb dX6_islandFor_66 rfl (lv_at hl 1 rfl) ?_
          refine va_get (v := .ref (a 17)) hx hb hts inX6_islandFor_X6 hown hKK.1 hz.1 0 rfl rfl 26 (by decide) (hts _ (List.mem_of_getElem? (i := 3) rfl)) (fun _ h9 => h9) rfl dX6_islandFor_67 ?_
          refine lv_iload_n hx hb dX6_islandFor_70 rfl (lv_at hl 3 rfl) ?_
          obtain ⟨c14, h⟩ := ck_e h
          refine va_iald (f := (σ 17)) hx hb hKK.1 hz.1 17 0 rfl rfl c14 dX6_islandFor_71 ?_
          obtain ⟨r15, e17, h⟩ := bd1_e h
          refine zcallSi (As := [.int y1, .int ((σ 17) (Int32.toNatClampNeg y2))]) (rest := [.int r4]) CF hKK (KX6_apart (dC := dC) (dI := dI) (cI := cI) (cZ := cZ) (a := a) hok e17) (va_cwS 2 hts gX6_islandFor_X6_apart rfl rfl rfl cdX6_apart.2 ⟨Nat.le_of_ble_eq_true rfl, Nat.le_of_ble_eq_true rfl⟩) hz rfl hl.1 rfl (Nat.le_of_ble_eq_true rfl) dX6_islandFor_72 ⟨Nat.le_refl _, Nat.le_refl _⟩ (fun H locs hz => ?_)
          refine lv_icmp_ge (tgt := 142) hx hb dX6_islandFor_75 (by decide) (fun c18 => ?_) (fun c18 => ?_)
          · replace h := ite_t c18 h
            refine lv_iinc (v := (y4 + (1 : Int32))) (lv' := [(4, .int (y4 + (1 : Int32))), (5, .int r4), (0, .ref (a 0)), (1, .int y1), (2, .int y2), (3, .int y3)]) hx hb dX6_islandFor_142 hl (k := 5) rfl rfl (by decide) rfl (fun ls hl => ?_)
            refine lv_goto (tgt := 5) hx hb dX6_islandFor_145 (by decide) ?_
            exact hk5 y1 y2 y3 (y4 + (1 : Int32)) _ _ _ h hz (lv_sub hl [2, 3, 4, 5, 0] rfl)
          · replace h := ite_f c18 h
            refine lv_iload_n hx hb dX6_islandFor_78 rfl (lv_at hl 4 rfl) ?_
            refine lv_iconst (v := (-1 : Int32)) hx hb dX6_islandFor_79 (by decide) ?_
            refine lv_icmp_ne (tgt := 88) hx hb dX6_islandFor_80 (by decide) (fun c19 => ?_) (fun c19 => ?_)
            · replace h := ite_f c19 h
              refine lv_aload_n hx hb dX6_islandFor_88 rfl (lv_at hl 1 rfl) ?_
              refine va_get (v := .ref (a 13)) hx hb hts inX6_islandFor_X6 hown hKK.1 hz.1 0 rfl rfl 22 (by decide) (hts _ (List.mem_of_getElem? (i := 2) rfl)) (fun _ h9 => h9) rfl dX6_islandFor_89 ?_
              refine lv_iload_n hx hb dX6_islandFor_92 rfl (lv_at hl 4 rfl) ?_
              obtain ⟨c20, h⟩ := ck_e h
              refine va_iald (f := (σ 13)) hx hb hKK.1 hz.1 13 0 rfl rfl c20 dX6_islandFor_93 ?_
              refine lv_aload_n hx hb dX6_islandFor_94 rfl (lv_at hl 1 rfl) ?_
              refine va_get (v := .ref (a 17)) hx hb hts inX6_islandFor_X6 hown hKK.1 hz.1 0 rfl rfl 26 (by decide) (hts _ (List.mem_of_getElem? (i := 3) rfl)) (fun _ h9 => h9) rfl dX6_islandFor_95 ?_
              refine lv_iload_n hx hb dX6_islandFor_98 rfl (lv_at hl 3 rfl) ?_
              obtain ⟨c21, h⟩ := ck_e h
              refine va_iald (f := (σ 17)) hx hb hKK.1 hz.1 17 0 rfl rfl c21 dX6_islandFor_99 ?_
              obtain ⟨r22, e24, h⟩ := bd1_e h
              refine zcallSi (As := [.int ((σ 13) (Int32.toNatClampNeg y3)), .int ((σ 17) (Int32.toNatClampNeg y2))]) (rest := []) CF hKK (KX6_apart (dC := dC) (dI := dI) (cI := cI) (cZ := cZ) (a := a) hok e24) (va_cwS 2 hts gX6_islandFor_X6_apart rfl rfl rfl cdX6_apart.2 ⟨Nat.le_of_ble_eq_true rfl, Nat.le_of_ble_eq_true rfl⟩) hz rfl hl.1 rfl (Nat.le_of_ble_eq_true rfl) dX6_islandFor_100 ⟨Nat.le_refl _, Nat.le_refl _⟩ (fun H locs hz => ?_)
              exact b103 k5 hk5 y1 y2 y3 y4 r4 r22 _ _ _ h hz (lv_sub hl [1, 2, 3, 4, 5, 0] rfl)
            · replace h := ite_t c19 h
              refine lv_ldc (v := (1048576 : Int32)) hx hb hown (hts _ (List.mem_of_getElem? (i := 6) rfl)) dX6_islandFor_83 ?_
              refine lv_goto (tgt := 103) hx hb dX6_islandFor_85 (by decide) ?_
              exact b103 k5 hk5 y1 y2 y3 y4 r4 (1048576 : Int32) _ _ _ h hz (lv_sub hl [1, 2, 3, 4, 5, 0] rfl)
  have l5 : ∀  (n : Nat), ∀ (y1 : Int32) (y2 : Int32) (y3 : Int32) (y4 : Int32) (H : Heap) (locs : List Loc) (ls : Array Slot), fX6_islandFor_l5 σ  n y1 y2 y3 y4 = some r → zz (dC, dI) 18 a (wdM cI cZ a hh σ) s.heap H locs → lv_has ls 7 [(0, .ref (a 0)), (1, .int y1), (2, .int y2), (3, .int y3), (4, .int y4)] → W p l e rmX6_islandFor s m args below meth c H locs 0 0 Q (F0 m 5 ls []) := by
    intro  n
    induction n with
    | zero => intro y1 y2 y3 y4 H locs ls h; exact nomatch h
    | succ n ih => exact s5  (fX6_islandFor_l5 σ  n) ih
  unfold fX6_islandFor at h
  refine lv_iconst (v := (-1 : Int32)) hx hb dX6_islandFor_0 (by decide) ?_
  refine lv_istore_n (lv' := [(3, .int (-1 : Int32)), (0, .ref (a 0)), (1, .int x1), (2, .int x2)]) hx hb dX6_islandFor_1 rfl hl (by decide) rfl (fun ls hl => ?_)
  refine lv_iconst (v := (0 : Int32)) hx hb dX6_islandFor_2 (by decide) ?_
  refine lv_istore (lv' := [(4, .int (0 : Int32)), (3, .int (-1 : Int32)), (0, .ref (a 0)), (1, .int x1), (2, .int x2)]) hx hb dX6_islandFor_3 hl (by decide) rfl (fun ls hl => ?_)
  exact l5  FU x1 x2 (-1 : Int32) (0 : Int32) _ _ _ h hz (lv_sub hl [2, 3, 4, 1, 0] rfl)
def fX6_goesFrom (σ : St) (x1 : Int32) (x2 : Int32) : Option (Int32) :=
  (bd1 (fX6_reachesLabel σ x1 x2) fun r1 => (if r1 = 0 then ((bd1 (fX6_islandFor σ x1 x2) fun r5 => (if r5 = (-1 : Int32) then (some (-1 : Int32)) else ((ck (¬ (r5 < 0 ∨ 12 ≤ Int32.toNatClampNeg r5)) <| some ((σ 13) (Int32.toNatClampNeg r5))))))) else ((ck (¬ (x2 < 0 ∨ 8 ≤ Int32.toNatClampNeg x2)) <| some ((σ 17) (Int32.toNatClampNeg x2))))))
abbrev rmX6_goesFrom : Room := { frames := 2, cells := 0, slots := 0, locals := 47 }
set_option maxHeartbeats 4000000 in
set_option maxRecDepth 100000 in
theorem KX6_goesFrom {l : Launch} {dC : Nat → ClassId} {dI : Nat → Nat → Nat} {cI cZ : ClassId} {a : Nat → Nat} {hh : Int64} {σ : St} {x1 : Int32} {x2 : Int32} {r : Int32} (hok : okA 18 a) (h : fX6_goesFrom σ x1 x2 = some r) (sz : Nat) : Met l yX6_goesFrom wsX6_goesFrom rmX6_goesFrom (Pz (dC, dI) cI cZ (wdM cI cZ a hh σ) sz [.ref (a 0), .int x1, .int x2]) (Qzi (dC, dI) 18 a (wdM cI cZ a hh σ) sz r) 0 0 (aN 18 a sz) := by
  refine Met.ofW (cc := cX6_goesFrom) (maxL := 4) (ret := (some .int)) (by decide) rfl ?_
  intro p e s m args below meth c s₁ B hml hv
  obtain ⟨hav, hsz, hP, hKK⟩ := hv
  have hx := B.exec
  have hb := B.bytes
  have hr := B.returns
  have hts := atoms_spec (ws := wsX6_goesFrom) B.pre
  have hown : s.vm.findClass RX6 = some m.cls := findClass_of_methodNamed B.named
  have hlocks := B.notSynchronized
  have CF : CallFix p m c cX6_goesFrom 4 s args wsX6_goesFrom RX6 := ⟨hx, hb, hml, hown, hts⟩
  have hz : zz (dC, dI) 18 a (wdM cI cZ a hh σ) s.heap s.heap [] := ⟨hP, va_S.rf⟩
  have hl := lv_entry [.ref (a 0), .int x1, .int x2] (n := 4) (Nat.le_of_ble_eq_true rfl)
  have hen : entryFrame m args 4 = entryFrame m ([.ref (a 0), .int x1, .int x2] : List Value).toArray 4 := by rw [hav]
  rw [hen, lg_entry_eq]
  generalize (lg_sl [.ref (a 0), .int x1, .int x2] ++ List.replicate (4 - (lg_sl [.ref (a 0), .int x1, .int x2]).length) Slot.unset).toArray = ls at hl ⊢
  have hl : lv_has ls 4 [(0, .ref (a 0)), (1, .int x1), (2, .int x2)] := hl
  have eR : (headSpec wsX6_goesFrom rmX6_goesFrom).room = rmX6_goesFrom := rfl
  rw [eR]
  have rt : ∀ (v : Int32) (t : St) (pc : Nat) (H : Heap) (locs : List Loc) (ls : Array Slot), decode cX6_goesFrom pc = .ok (.ireturn, 1) → some v = some r → zz (dC, dI) 18 a (wdM cI cZ a hh σ) s.heap H locs → W p l e rmX6_goesFrom s m args below meth c H locs 0 0 (MQ below (Qzi (dC, dI) 18 a (wdM cI cZ a hh σ) sz r) args s 0 0 (aN 18 a sz)) (F0 m pc ls [.int v]) := by
    intro v t pc H locs ls hd h hz
    cases h
    exact ziret hsz hx hb hr hlocks hz hd
  generalize (MQ below (Qzi (dC, dI) 18 a (wdM cI cZ a hh σ) sz r) args s 0 0 (aN 18 a sz)) = Q at rt ⊢
  unfold fX6_goesFrom at h
  refine lv_aload_n hx hb dX6_goesFrom_0 rfl (lv_at hl 0 rfl) ?_
  refine lv_iload_n hx hb dX6_goesFrom_1 rfl (lv_at hl 1 rfl) ?_
  refine lv_iload_n hx hb dX6_goesFrom_2 rfl (lv_at hl 2 rfl) ?_
  obtain ⟨r1, e3, h⟩ := bd1_e h
  refine zcallVi (As := [.int x1, .int x2]) (rest := []) CF hKK (KX6_reachesLabel (dC := dC) (dI := dI) (cI := cI) (cZ := cZ) (a := a) hok e3) (cwV 2 hts gX6_goesFrom_X6_reachesLabel rfl rfl rfl cdX6_reachesLabel ⟨Nat.le_of_ble_eq_true rfl, Nat.le_of_ble_eq_true rfl⟩) 0 6 rfl rfl hz rfl hl.1 rfl (Nat.le_of_ble_eq_true rfl) dX6_goesFrom_3 ⟨Nat.le_refl _, Nat.le_refl _⟩ (fun H locs hz => ?_)
  refine lv_if_eq (tgt := 16) hx hb dX6_goesFrom_6 (by decide) (fun c4 => ?_) (fun c4 => ?_)
  · replace h := ite_t c4 h
    refine lv_aload_n hx hb dX6_goesFrom_16 rfl (lv_at hl 0 rfl) ?_
    refine lv_iload_n hx hb dX6_goesFrom_17 rfl (lv_at hl 1 rfl) ?_
    refine lv_iload_n hx hb dX6_goesFrom_18 rfl (lv_at hl 2 rfl) ?_
    obtain ⟨r5, e7, h⟩ := bd1_e h
    refine zcallVi (As := [.int x1, .int x2]) (rest := []) CF hKK (KX6_islandFor (dC := dC) (dI := dI) (cI := cI) (cZ := cZ) (a := a) hok e7) (cwV 2 hts gX6_goesFrom_X6_islandFor rfl rfl rfl cdX6_islandFor ⟨Nat.le_of_ble_eq_true rfl, Nat.le_of_ble_eq_true rfl⟩) 0 6 rfl rfl hz rfl hl.1 rfl (Nat.le_of_ble_eq_true rfl) dX6_goesFrom_19 ⟨Nat.le_refl _, Nat.le_refl _⟩ (fun H locs hz => ?_)
    refine lv_istore_n (lv' := [(3, .int r5), (0, .ref (a 0)), (1, .int x1), (2, .int x2)]) hx hb dX6_goesFrom_22 rfl hl (by decide) rfl (fun ls hl => ?_)
    refine lv_iload_n hx hb dX6_goesFrom_23 rfl (lv_at hl 0 rfl) ?_
    refine lv_iconst (v := (-1 : Int32)) hx hb dX6_goesFrom_24 (by decide) ?_
    refine lv_icmp_ne (tgt := 32) hx hb dX6_goesFrom_25 (by decide) (fun c8 => ?_) (fun c8 => ?_)
    · replace h := ite_f c8 h
      refine lv_aload_n hx hb dX6_goesFrom_32 rfl (lv_at hl 1 rfl) ?_
      refine va_get (v := .ref (a 13)) hx hb hts inX6_goesFrom_X6 hown hKK.1 hz.1 0 rfl rfl 22 (by decide) (hts _ (List.mem_of_getElem? (i := 2) rfl)) (fun _ h9 => h9) rfl dX6_goesFrom_33 ?_
      refine lv_iload_n hx hb dX6_goesFrom_36 rfl (lv_at hl 0 rfl) ?_
      obtain ⟨c9, h⟩ := ck_e h
      refine va_iald (f := (σ 13)) hx hb hKK.1 hz.1 13 0 rfl rfl c9 dX6_goesFrom_37 ?_
      exact rt ((σ 13) (Int32.toNatClampNeg r5)) σ 38 _ _ _ dX6_goesFrom_38 h hz
    · replace h := ite_t c8 h
      refine lv_iconst (v := (-1 : Int32)) hx hb dX6_goesFrom_28 (by decide) ?_
      refine lv_goto (tgt := 38) hx hb dX6_goesFrom_29 (by decide) ?_
      exact rt (-1 : Int32) σ 38 _ _ _ dX6_goesFrom_38 h hz
  · replace h := ite_f c4 h
    refine lv_aload_n hx hb dX6_goesFrom_9 rfl (lv_at hl 0 rfl) ?_
    refine va_get (v := .ref (a 17)) hx hb hts inX6_goesFrom_X6 hown hKK.1 hz.1 0 rfl rfl 26 (by decide) (hts _ (List.mem_of_getElem? (i := 1) rfl)) (fun _ h9 => h9) rfl dX6_goesFrom_10 ?_
    refine lv_iload_n hx hb dX6_goesFrom_13 rfl (lv_at hl 2 rfl) ?_
    obtain ⟨c10, h⟩ := ck_e h
    refine va_iald (f := (σ 17)) hx hb hKK.1 hz.1 17 0 rfl rfl c10 dX6_goesFrom_14 ?_
    exact rt ((σ 17) (Int32.toNatClampNeg x2)) σ 15 _ _ _ dX6_goesFrom_15 h hz
def fX6_shortGoes (σ : St) (x1 : Int32) : Option (Int32) :=
  (ck (¬ (x1 < 0 ∨ 24 ≤ Int32.toNatClampNeg x1)) <| (ck (¬ (((σ 3) (Int32.toNatClampNeg x1)) < 0 ∨ 8 ≤ Int32.toNatClampNeg ((σ 3) (Int32.toNatClampNeg x1)))) <| (ck (¬ (x1 < 0 ∨ 24 ≤ Int32.toNatClampNeg x1)) <| (bd1 (fX6_apart σ ((σ 12) (Int32.toNatClampNeg x1)) ((σ 17) (Int32.toNatClampNeg ((σ 3) (Int32.toNatClampNeg x1))))) fun r4 => (if ((σ 4) (Int32.toNatClampNeg (0 : Int32))) < r4 then (some (-1 : Int32)) else (some ((σ 17) (Int32.toNatClampNeg ((σ 3) (Int32.toNatClampNeg x1))))))))))
abbrev rmX6_shortGoes : Room := { frames := 1, cells := 0, slots := 0, locals := 21 }
set_option maxHeartbeats 4000000 in
set_option maxRecDepth 100000 in
theorem KX6_shortGoes {l : Launch} {dC : Nat → ClassId} {dI : Nat → Nat → Nat} {cI cZ : ClassId} {a : Nat → Nat} {hh : Int64} {σ : St} {x1 : Int32} {r : Int32} (hok : okA 18 a) (h : fX6_shortGoes σ x1 = some r) (sz : Nat) : Met l yX6_shortGoes wsX6_shortGoes rmX6_shortGoes (Pz (dC, dI) cI cZ (wdM cI cZ a hh σ) sz [.ref (a 0), .int x1]) (Qzi (dC, dI) 18 a (wdM cI cZ a hh σ) sz r) 0 0 (aN 18 a sz) := by
  refine Met.ofW (cc := cX6_shortGoes) (maxL := 3) (ret := (some .int)) (by decide) rfl ?_
  intro p e s m args below meth c s₁ B hml hv
  obtain ⟨hav, hsz, hP, hKK⟩ := hv
  have hx := B.exec
  have hb := B.bytes
  have hr := B.returns
  have hts := atoms_spec (ws := wsX6_shortGoes) B.pre
  have hown : s.vm.findClass RX6 = some m.cls := findClass_of_methodNamed B.named
  have hlocks := B.notSynchronized
  have CF : CallFix p m c cX6_shortGoes 3 s args wsX6_shortGoes RX6 := ⟨hx, hb, hml, hown, hts⟩
  have hz : zz (dC, dI) 18 a (wdM cI cZ a hh σ) s.heap s.heap [] := ⟨hP, va_S.rf⟩
  have hl := lv_entry [.ref (a 0), .int x1] (n := 3) (Nat.le_of_ble_eq_true rfl)
  have hen : entryFrame m args 3 = entryFrame m ([.ref (a 0), .int x1] : List Value).toArray 3 := by rw [hav]
  rw [hen, lg_entry_eq]
  generalize (lg_sl [.ref (a 0), .int x1] ++ List.replicate (3 - (lg_sl [.ref (a 0), .int x1]).length) Slot.unset).toArray = ls at hl ⊢
  have hl : lv_has ls 3 [(0, .ref (a 0)), (1, .int x1)] := hl
  have eR : (headSpec wsX6_shortGoes rmX6_shortGoes).room = rmX6_shortGoes := rfl
  rw [eR]
  have rt : ∀ (v : Int32) (t : St) (pc : Nat) (H : Heap) (locs : List Loc) (ls : Array Slot), decode cX6_shortGoes pc = .ok (.ireturn, 1) → some v = some r → zz (dC, dI) 18 a (wdM cI cZ a hh σ) s.heap H locs → W p l e rmX6_shortGoes s m args below meth c H locs 0 0 (MQ below (Qzi (dC, dI) 18 a (wdM cI cZ a hh σ) sz r) args s 0 0 (aN 18 a sz)) (F0 m pc ls [.int v]) := by
    intro v t pc H locs ls hd h hz
    cases h
    exact ziret hsz hx hb hr hlocks hz hd
  generalize (MQ below (Qzi (dC, dI) 18 a (wdM cI cZ a hh σ) sz r) args s 0 0 (aN 18 a sz)) = Q at rt ⊢
  unfold fX6_shortGoes at h
  refine lv_aload_n hx hb dX6_shortGoes_0 rfl (lv_at hl 0 rfl) ?_
  refine va_get (v := .ref (a 17)) hx hb hts inX6_shortGoes_X6 hown hKK.1 hz.1 0 rfl rfl 26 (by decide) (hts _ (List.mem_of_getElem? (i := 1) rfl)) (fun _ h9 => h9) rfl dX6_shortGoes_1 ?_
  refine lv_aload_n hx hb dX6_shortGoes_4 rfl (lv_at hl 0 rfl) ?_
  refine va_get (v := .ref (a 3)) hx hb hts inX6_shortGoes_X6 hown hKK.1 hz.1 0 rfl rfl 4 (by decide) (hts _ (List.mem_of_getElem? (i := 2) rfl)) (fun _ h9 => h9) rfl dX6_shortGoes_5 ?_
  refine lv_iload_n hx hb dX6_shortGoes_8 rfl (lv_at hl 1 rfl) ?_
  obtain ⟨c1, h⟩ := ck_e h
  refine va_iald (f := (σ 3)) hx hb hKK.1 hz.1 3 0 rfl rfl c1 dX6_shortGoes_9 ?_
  obtain ⟨c2, h⟩ := ck_e h
  refine va_iald (f := (σ 17)) hx hb hKK.1 hz.1 17 0 rfl rfl c2 dX6_shortGoes_10 ?_
  refine lv_istore_n (lv' := [(2, .int ((σ 17) (Int32.toNatClampNeg ((σ 3) (Int32.toNatClampNeg x1))))), (0, .ref (a 0)), (1, .int x1)]) hx hb dX6_shortGoes_11 rfl hl (by decide) rfl (fun ls hl => ?_)
  refine lv_aload_n hx hb dX6_shortGoes_12 rfl (lv_at hl 1 rfl) ?_
  refine va_get (v := .ref (a 12)) hx hb hts inX6_shortGoes_X6 hown hKK.1 hz.1 0 rfl rfl 21 (by decide) (hts _ (List.mem_of_getElem? (i := 3) rfl)) (fun _ h9 => h9) rfl dX6_shortGoes_13 ?_
  refine lv_iload_n hx hb dX6_shortGoes_16 rfl (lv_at hl 2 rfl) ?_
  obtain ⟨c3, h⟩ := ck_e h
  refine va_iald (f := (σ 12)) hx hb hKK.1 hz.1 12 0 rfl rfl c3 dX6_shortGoes_17 ?_
  refine lv_iload_n hx hb dX6_shortGoes_18 rfl (lv_at hl 0 rfl) ?_
  obtain ⟨r4, e6, h⟩ := bd1_e h
  refine zcallSi (As := [.int ((σ 12) (Int32.toNatClampNeg x1)), .int ((σ 17) (Int32.toNatClampNeg ((σ 3) (Int32.toNatClampNeg x1))))]) (rest := []) CF hKK (KX6_apart (dC := dC) (dI := dI) (cI := cI) (cZ := cZ) (a := a) hok e6) (va_cwS 2 hts gX6_shortGoes_X6_apart rfl rfl rfl cdX6_apart.2 ⟨Nat.le_of_ble_eq_true rfl, Nat.le_of_ble_eq_true rfl⟩) hz rfl hl.1 rfl (Nat.le_of_ble_eq_true rfl) dX6_shortGoes_19 ⟨Nat.le_refl _, Nat.le_refl _⟩ (fun H locs hz => ?_)
  refine lv_aload_n hx hb dX6_shortGoes_22 rfl (lv_at hl 1 rfl) ?_
  refine va_get (v := .ref (a 4)) hx hb hts inX6_shortGoes_X6 hown hKK.1 hz.1 0 rfl rfl 7 (by decide) (hts _ (List.mem_of_getElem? (i := 4) rfl)) (fun _ h9 => h9) rfl dX6_shortGoes_23 ?_
  refine lv_iconst (v := (0 : Int32)) hx hb dX6_shortGoes_26 (by decide) ?_
  refine va_iald (f := (σ 4)) hx hb hKK.1 hz.1 4 0 rfl rfl (by decide : vp_inD (0 : Int32) 3) dX6_shortGoes_27 ?_
  refine lv_icmp_gt (tgt := 35) hx hb dX6_shortGoes_28 (by decide) (fun c7 => ?_) (fun c7 => ?_)
  · replace h := ite_t c7 h
    refine lv_iconst (v := (-1 : Int32)) hx hb dX6_shortGoes_35 (by decide) ?_
    exact rt (-1 : Int32) σ 36 _ _ _ dX6_shortGoes_36 h hz
  · replace h := ite_f c7 h
    refine lv_iload_n hx hb dX6_shortGoes_31 rfl (lv_at hl 0 rfl) ?_
    refine lv_goto (tgt := 36) hx hb dX6_shortGoes_32 (by decide) ?_
    exact rt ((σ 17) (Int32.toNatClampNeg ((σ 3) (Int32.toNatClampNeg x1)))) σ 36 _ _ _ dX6_shortGoes_36 h hz
