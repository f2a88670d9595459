def fX6_within (σ : St) (x1 : Int32) (x2 : Int32) (x3 : Int32) : Option (Int32) :=
  (if x1 < x2 then (some (0 : Int32)) else ((if x3 < x1 then (some (0 : Int32)) else (some (1 : Int32)))))
abbrev rmX6_within : Room := { frames := 0, cells := 0, slots := 0, locals := 0 }
set_option maxHeartbeats 4000000 in
set_option maxRecDepth 100000 in
theorem KX6_within {l : Launch} {dC : Nat → ClassId} {dI : Nat → Nat → Nat} {cI cZ : ClassId} {a : Nat → Nat} {hh : Int64} {σ : St} {x1 : Int32} {x2 : Int32} {x3 : Int32} {r : Int32} (hok : okA 18 a) (h : fX6_within σ x1 x2 x3 = some r) (sz : Nat) : Met l yX6_within wsX6_within rmX6_within (Pz (dC, dI) cI cZ (wdM cI cZ a hh σ) sz [.int x1, .int x2, .int x3]) (Qzi (dC, dI) 18 a (wdM cI cZ a hh σ) sz r) 0 0 (aN 18 a sz) := by
  refine Met.ofW (cc := cX6_within) (maxL := 3) (ret := (some .boolean)) (by decide) rfl ?_
  intro p e s m args below meth c s₁ B hml hv
  obtain ⟨hav, hsz, hP, hKK⟩ := hv
  have hx := B.exec
  have hb := B.bytes
  have hr := B.returns
  have hts := atoms_spec (ws := wsX6_within) B.pre
  have hown : s.vm.findClass RX6 = some m.cls := findClass_of_methodNamed B.named
  have hlocks := B.notSynchronized
  have CF : CallFix p m c cX6_within 3 s args wsX6_within RX6 := ⟨hx, hb, hml, hown, hts⟩
  have hz : zz (dC, dI) 18 a (wdM cI cZ a hh σ) s.heap s.heap [] := ⟨hP, va_S.rf⟩
  have hl := lv_entry [.int x1, .int x2, .int x3] (n := 3) (Nat.le_of_ble_eq_true rfl)
  have hen : entryFrame m args 3 = entryFrame m ([.int x1, .int x2, .int x3] : List Value).toArray 3 := by rw [hav]
  rw [hen, lg_entry_eq]
  generalize (lg_sl [.int x1, .int x2, .int x3] ++ List.replicate (3 - (lg_sl [.int x1, .int x2, .int x3]).length) Slot.unset).toArray = ls at hl ⊢
  have hl : lv_has ls 3 [(0, .int x1), (1, .int x2), (2, .int x3)] := hl
  have eR : (headSpec wsX6_within rmX6_within).room = rmX6_within := rfl
  rw [eR]
  have rt : ∀ (v : Int32) (t : St) (pc : Nat) (H : Heap) (locs : List Loc) (ls : Array Slot), decode cX6_within pc = .ok (.ireturn, 1) → some v = some r → zz (dC, dI) 18 a (wdM cI cZ a hh σ) s.heap H locs → (v = 0 ∨ v = 1) → W p l e rmX6_within s m args below meth c H locs 0 0 (MQ below (Qzi (dC, dI) 18 a (wdM cI cZ a hh σ) sz r) args s 0 0 (aN 18 a sz)) (F0 m pc ls [.int v]) := by
    intro v t pc H locs ls hd h hz hv
    cases h
    exact zzret hsz hx hb hr hlocks hv hz hd
  generalize (MQ below (Qzi (dC, dI) 18 a (wdM cI cZ a hh σ) sz r) args s 0 0 (aN 18 a sz)) = Q at rt ⊢
  unfold fX6_within at h
  refine lv_iload_n hx hb dX6_within_0 rfl (lv_at hl 0 rfl) ?_
  refine lv_iload_n hx hb dX6_within_1 rfl (lv_at hl 1 rfl) ?_
  refine lv_icmp_lt (tgt := 14) hx hb dX6_within_2 (by decide) (fun c1 => ?_) (fun c1 => ?_)
  · replace h := ite_t c1 h
    refine lv_iconst (v := (0 : Int32)) hx hb dX6_within_14 (by decide) ?_
    exact rt (0 : Int32) σ 15 _ _ _ dX6_within_15 h hz (Or.inl rfl)
  · replace h := ite_f c1 h
    refine lv_iload_n hx hb dX6_within_5 rfl (lv_at hl 0 rfl) ?_
    refine lv_iload_n hx hb dX6_within_6 rfl (lv_at hl 2 rfl) ?_
    refine lv_icmp_gt (tgt := 14) hx hb dX6_within_7 (by decide) (fun c2 => ?_) (fun c2 => ?_)
    · replace h := ite_t c2 h
      refine lv_iconst (v := (0 : Int32)) hx hb dX6_within_14 (by decide) ?_
      exact rt (0 : Int32) σ 15 _ _ _ dX6_within_15 h hz (Or.inl rfl)
    · replace h := ite_f c2 h
      refine lv_iconst (v := (1 : Int32)) hx hb dX6_within_10 (by decide) ?_
      refine lv_goto (tgt := 15) hx hb dX6_within_11 (by decide) ?_
      exact rt (1 : Int32) σ 15 _ _ _ dX6_within_15 h hz (Or.inr rfl)
def fX6_letter (σ : St) (x1 : Int32) : Option (Int32 × St) :=
  (bd1 (fX6_within σ x1 (32 : Int32) (126 : Int32)) fun r1 => (if r1 = 0 then (some ((-1002 : Int32), σ)) else ((if (σ 40 0) = (50 : Int32) then (some ((-1004 : Int32), σ)) else ((ck (¬ ((σ 40 0) < 0 ∨ 50 ≤ Int32.toNatClampNeg (σ 40 0))) <| some (((σ 40 0) + (1 : Int32)), (si (sa σ 1 (Int32.toNatClampNeg (σ 40 0)) x1) 40 ((σ 40 0) + (1 : Int32))))))))))
abbrev rmX6_letter : Room := { frames := 1, cells := 0, slots := 0, locals := 22 }
set_option maxHeartbeats 4000000 in
set_option maxRecDepth 100000 in
theorem KX6_letter {l : Launch} {dC : Nat → ClassId} {dI : Nat → Nat → Nat} {cI cZ : ClassId} {a : Nat → Nat} {hh : Int64} {σ : St} {x1 : Int32} {r : Int32} {σ2 : St} (hok : okA 18 a) (h : fX6_letter σ x1 = some (r, σ2)) (sz : Nat) : Met l yX6_letter wsX6_letter rmX6_letter (Pz (dC, dI) cI cZ (wdM cI cZ a hh σ) sz [.ref (a 0), .int x1]) (Qzi (dC, dI) 18 a (wdM cI cZ a hh σ2) sz r) 0 0 (aN 18 a sz) := by
  refine Met.ofW (cc := cX6_letter) (maxL := 2) (ret := (some .int)) (by decide) rfl ?_
  intro p e s m args below meth c s₁ B hml hv
  obtain ⟨hav, hsz, hP, hKK⟩ := hv
  have hx := B.exec
  have hb := B.bytes
  have hr := B.returns
  have hts := atoms_spec (ws := wsX6_letter) B.pre
  have hown : s.vm.findClass RX6 = some m.cls := findClass_of_methodNamed B.named
  have hlocks := B.notSynchronized
  have CF : CallFix p m c cX6_letter 2 s args wsX6_letter RX6 := ⟨hx, hb, hml, hown, hts⟩
  have hz : zz (dC, dI) 18 a (wdM cI cZ a hh σ) s.heap s.heap [] := ⟨hP, va_S.rf⟩
  have hl := lv_entry [.ref (a 0), .int x1] (n := 2) (Nat.le_of_ble_eq_true rfl)
  have hen : entryFrame m args 2 = entryFrame m ([.ref (a 0), .int x1] : List Value).toArray 2 := by rw [hav]
  rw [hen, lg_entry_eq]
  generalize (lg_sl [.ref (a 0), .int x1] ++ List.replicate (2 - (lg_sl [.ref (a 0), .int x1]).length) Slot.unset).toArray = ls at hl ⊢
  have hl : lv_has ls 2 [(0, .ref (a 0)), (1, .int x1)] := hl
  have eR : (headSpec wsX6_letter rmX6_letter).room = rmX6_letter := rfl
  rw [eR]
  have rt : ∀ (v : Int32) (t : St) (pc : Nat) (H : Heap) (locs : List Loc) (ls : Array Slot), decode cX6_letter pc = .ok (.ireturn, 1) → some (v, t) = some (r, σ2) → zz (dC, dI) 18 a (wdM cI cZ a hh t) s.heap H locs → W p l e rmX6_letter s m args below meth c H locs 0 0 (MQ below (Qzi (dC, dI) 18 a (wdM cI cZ a hh σ2) sz r) args s 0 0 (aN 18 a sz)) (F0 m pc ls [.int v]) := by
    intro v t pc H locs ls hd h hz
    cases h
    exact ziret hsz hx hb hr hlocks hz hd
  generalize (MQ below (Qzi (dC, dI) 18 a (wdM cI cZ a hh σ2) sz r) args s 0 0 (aN 18 a sz)) = Q at rt ⊢
  unfold fX6_letter at h
  refine lv_iload_n hx hb dX6_letter_0 rfl (lv_at hl 1 rfl) ?_
  refine lv_bipush (v := (32 : Int32)) hx hb dX6_letter_1 (by decide) ?_
  refine lv_bipush (v := (126 : Int32)) hx hb dX6_letter_3 (by decide) ?_
  obtain ⟨r1, e3, h⟩ := bd1_e h
  refine zcallSi (As := [.int x1, .int (32 : Int32), .int (126 : Int32)]) (rest := []) CF hKK (KX6_within (dC := dC) (dI := dI) (cI := cI) (cZ := cZ) (a := a) hok e3) (va_cwS 3 hts gX6_letter_X6_within rfl rfl rfl cdX6_within.2 ⟨Nat.le_of_ble_eq_true rfl, Nat.le_of_ble_eq_true rfl⟩) hz rfl hl.1 rfl (Nat.le_of_ble_eq_true rfl) dX6_letter_5 ⟨Nat.le_refl _, Nat.le_refl _⟩ (fun H locs hz => ?_)
  refine lv_if_ne (tgt := 15) hx hb dX6_letter_8 (by decide) (fun c4 => ?_) (fun c4 => ?_)
  · replace h := ite_f c4 h
    refine lv_aload_n hx hb dX6_letter_15 rfl (lv_at hl 0 rfl) ?_
    refine va_get (v := .int (σ 40 0)) hx hb hts inX6_letter_X6 hown hKK.1 hz.1 0 rfl rfl 0 (by decide) (hts _ (List.mem_of_getElem? (i := 1) rfl)) (fun _ h9 => h9) rfl dX6_letter_16 ?_
    refine lv_bipush (v := (50 : Int32)) hx hb dX6_letter_19 (by decide) ?_
    refine lv_icmp_ne (tgt := 28) hx hb dX6_letter_21 (by decide) (fun c5 => ?_) (fun c5 => ?_)
    · replace h := ite_f c5 h
      refine lv_aload_n hx hb dX6_letter_28 rfl (lv_at hl 0 rfl) ?_
      refine va_get (v := .ref (a 1)) hx hb hts inX6_letter_X6 hown hKK.1 hz.1 0 rfl rfl 1 (by decide) (hts _ (List.mem_of_getElem? (i := 2) rfl)) (fun _ h9 => h9) rfl dX6_letter_29 ?_
      refine lv_aload_n hx hb dX6_letter_32 rfl (lv_at hl 0 rfl) ?_
      refine va_get (v := .int (σ 40 0)) hx hb hts inX6_letter_X6 hown hKK.1 hz.1 0 rfl rfl 0 (by decide) (hts _ (List.mem_of_getElem? (i := 1) rfl)) (fun _ h9 => h9) rfl dX6_letter_33 ?_
      refine lv_iload_n hx hb dX6_letter_36 rfl (lv_at hl 1 rfl) ?_
      obtain ⟨c6, h⟩ := ck_e h
      refine ziast (f := σ 1) (w' := wdM cI cZ a hh (sa σ 1 (Int32.toNatClampNeg (σ 40 0)) x1)) hx hb hKK hok wkM hz 1 rfl c6 setMa_1 dX6_letter_37 (fun H locs hz => ?_)
      refine lv_aload_n hx hb dX6_letter_38 rfl (lv_at hl 0 rfl) ?_
      refine lv_dup hx hb dX6_letter_39 rfl ?_
      refine va_get (v := .int (σ 40 0)) hx hb hts inX6_letter_X6 hown hKK.1 hz.1 0 rfl rfl 0 (by decide) (hts _ (List.mem_of_getElem? (i := 1) rfl)) (fun _ h9 => h9) rfl dX6_letter_40 ?_
      refine lv_iconst (v := (1 : Int32)) hx hb dX6_letter_43 (by decide) ?_
      refine lv_iadd hx hb dX6_letter_44 ?_
      refine zput (ty := .int) (w' := wdM cI cZ a hh (si (sa σ 1 (Int32.toNatClampNeg (σ 40 0)) x1) 40 ((σ 40 0) + (1 : Int32)))) hx hb hts inX6_letter_X6 tyX6 tyX6_ok nmX6 hown hKK hok wkM hz 0 rfl rfl 0 (by decide) (hts _ (List.mem_of_getElem? (i := 1) rfl)) (fun _ h9 => h9) rfl rfl rfl rfl (Nat.le_of_ble_eq_true rfl) setMi_40 dX6_letter_45 (fun H locs hz => ?_)
      refine lv_aload_n hx hb dX6_letter_48 rfl (lv_at hl 0 rfl) ?_
      refine va_get (v := .int ((σ 40 0) + (1 : Int32))) hx hb hts inX6_letter_X6 hown hKK.1 hz.1 0 rfl rfl 0 (by decide) (hts _ (List.mem_of_getElem? (i := 1) rfl)) (fun _ h9 => h9) rfl dX6_letter_49 ?_
      exact rt ((σ 40 0) + (1 : Int32)) (si (sa σ 1 (Int32.toNatClampNeg (σ 40 0)) x1) 40 ((σ 40 0) + (1 : Int32))) 52 _ _ _ dX6_letter_52 h hz
    · replace h := ite_t c5 h
      refine lv_sipush (v := (-1004 : Int32)) hx hb dX6_letter_24 (by decide) ?_
      exact rt (-1004 : Int32) σ 27 _ _ _ dX6_letter_27 h hz
  · replace h := ite_t c4 h
    refine lv_sipush (v := (-1002 : Int32)) hx hb dX6_letter_11 (by decide) ?_
    exact rt (-1002 : Int32) σ 14 _ _ _ dX6_letter_14 h hz
def fX6_blank (σ : St)  : Option (Int32 × St) :=
  some ((σ 40 0), (si σ 40 (0 : Int32)))
abbrev rmX6_blank : Room := { frames := 0, cells := 0, slots := 0, locals := 0 }
set_option maxHeartbeats 4000000 in
set_option maxRecDepth 100000 in
theorem KX6_blank {l : Launch} {dC : Nat → ClassId} {dI : Nat → Nat → Nat} {cI cZ : ClassId} {a : Nat → Nat} {hh : Int64} {σ : St}  {r : Int32} {σ2 : St} (hok : okA 18 a) (h : fX6_blank σ  = some (r, σ2)) (sz : Nat) : Met l yX6_blank wsX6_blank rmX6_blank (Pz (dC, dI) cI cZ (wdM cI cZ a hh σ) sz [.ref (a 0)]) (Qzi (dC, dI) 18 a (wdM cI cZ a hh σ2) sz r) 0 0 (aN 18 a sz) := by
  refine Met.ofW (cc := cX6_blank) (maxL := 2) (ret := (some .int)) (by decide) rfl ?_
  intro p e s m args below meth c s₁ B hml hv
  obtain ⟨hav, hsz, hP, hKK⟩ := hv
  have hx := B.exec
  have hb := B.bytes
  have hr := B.returns
  have hts := atoms_spec (ws := wsX6_blank) B.pre
  have hown : s.vm.findClass RX6 = some m.cls := findClass_of_methodNamed B.named
  have hlocks := B.notSynchronized
  have CF : CallFix p m c cX6_blank 2 s args wsX6_blank RX6 := ⟨hx, hb, hml, hown, hts⟩
  have hz : zz (dC, dI) 18 a (wdM cI cZ a hh σ) s.heap s.heap [] := ⟨hP, va_S.rf⟩
  have hl := lv_entry [.ref (a 0)] (n := 2) (Nat.le_of_ble_eq_true rfl)
  have hen : entryFrame m args 2 = entryFrame m ([.ref (a 0)] : List Value).toArray 2 := by rw [hav]
  rw [hen, lg_entry_eq]
  generalize (lg_sl [.ref (a 0)] ++ List.replicate (2 - (lg_sl [.ref (a 0)]).length) Slot.unset).toArray = ls at hl ⊢
  have hl : lv_has ls 2 [(0, .ref (a 0))] := hl
  have eR : (headSpec wsX6_blank rmX6_blank).room = rmX6_blank := rfl
  rw [eR]
  have rt : ∀ (v : Int32) (t : St) (pc : Nat) (H : Heap) (locs : List Loc) (ls : Array Slot), decode cX6_blank pc = .ok (.ireturn, 1) → some (v, t) = some (r, σ2) → zz (dC, dI) 18 a (wdM cI cZ a hh t) s.heap H locs → W p l e rmX6_blank s m args below meth c H locs 0 0 (MQ below (Qzi (dC, dI) 18 a (wdM cI cZ a hh σ2) sz r) args s 0 0 (aN 18 a sz)) (F0 m pc ls [.int v]) := by
    intro v t pc H locs ls hd h hz
    cases h
    exact ziret hsz hx hb hr hlocks hz hd
  generalize (MQ below (Qzi (dC, dI) 18 a (wdM cI cZ a hh σ2) sz r) args s 0 0 (aN 18 a sz)) = Q at rt ⊢
  unfold fX6_blank at h
  refine lv_aload_n hx hb dX6_blank_0 rfl (lv_at hl 0 rfl) ?_
  refine va_get (v := .int (σ 40 0)) hx hb hts inX6_blank_X6 hown hKK.1 hz.1 0 rfl rfl 0 (by decide) (hts _ (List.mem_of_getElem? (i := 1) rfl)) (fun _ h9 => h9) rfl dX6_blank_1 ?_
  refine lv_istore_n (lv' := [(1, .int (σ 40 0)), (0, .ref (a 0))]) hx hb dX6_blank_4 rfl hl (by decide) rfl (fun ls hl => ?_)
  refine lv_aload_n hx hb dX6_blank_5 rfl (lv_at hl 1 rfl) ?_
  refine lv_iconst (v := (0 : Int32)) hx hb dX6_blank_6 (by decide) ?_
  refine zput (ty := .int) (w' := wdM cI cZ a hh (si σ 40 (0 : Int32))) hx hb hts inX6_blank_X6 tyX6 tyX6_ok nmX6 hown hKK hok wkM hz 0 rfl rfl 0 (by decide) (hts _ (List.mem_of_getElem? (i := 1) rfl)) (fun _ h9 => h9) rfl rfl rfl rfl (Nat.le_of_ble_eq_true rfl) setMi_40 dX6_blank_7 (fun H locs hz => ?_)
  refine lv_iload_n hx hb dX6_blank_10 rfl (lv_at hl 0 rfl) ?_
  exact rt (σ 40 0) (si σ 40 (0 : Int32)) 11 _ _ _ dX6_blank_11 h hz
def fX6_kindBy (σ : St) (x1 : Int32) : Option (Int32) :=
  (if x1 = (58 : Int32) then (some (3 : Int32)) else (if x1 = (97 : Int32) then (some (4 : Int32)) else (if x1 = (98 : Int32) then (some (2 : Int32)) else (if x1 = (108 : Int32) then (some (1 : Int32)) else (if x1 = (110 : Int32) then (some (0 : Int32)) else (if x1 = (114 : Int32) then (some (5 : Int32)) else some (-1 : Int32)))))))
abbrev rmX6_kindBy : Room := { frames := 0, cells := 0, slots := 0, locals := 0 }
set_option maxHeartbeats 4000000 in
set_option maxRecDepth 100000 in
theorem KX6_kindBy {l : Launch} {dC : Nat → ClassId} {dI : Nat → Nat → Nat} {cI cZ : ClassId} {a : Nat → Nat} {hh : Int64} {σ : St} {x1 : Int32} {r : Int32} (hok : okA 18 a) (h : fX6_kindBy σ x1 = some r) (sz : Nat) : Met l yX6_kindBy wsX6_kindBy rmX6_kindBy (Pz (dC, dI) cI cZ (wdM cI cZ a hh σ) sz [.int x1]) (Qzi (dC, dI) 18 a (wdM cI cZ a hh σ) sz r) 0 0 (aN 18 a sz) := by
  refine Met.ofW (cc := cX6_kindBy) (maxL := 1) (ret := (some .int)) (by decide) rfl ?_
  intro p e s m args below meth c s₁ B hml hv
  obtain ⟨hav, hsz, hP, hKK⟩ := hv
  have hx := B.exec
  have hb := B.bytes
  have hr := B.returns
  have hts := atoms_spec (ws := wsX6_kindBy) B.pre
  have hown : s.vm.findClass RX6 = some m.cls := findClass_of_methodNamed B.named
  have hlocks := B.notSynchronized
  have CF : CallFix p m c cX6_kindBy 1 s args wsX6_kindBy RX6 := ⟨hx, hb, hml, hown, hts⟩
  have hz : zz (dC, dI) 18 a (wdM cI cZ a hh σ) s.heap s.heap [] := ⟨hP, va_S.rf⟩
  have hl := lv_entry [.int x1] (n := 1) (Nat.le_of_ble_eq_true rfl)
  have hen : entryFrame m args 1 = entryFrame m ([.int x1] : List Value).toArray 1 := by rw [hav]
  rw [hen, lg_entry_eq]
  generalize (lg_sl [.int x1] ++ List.replicate (1 - (lg_sl [.int x1]).length) Slot.unset).toArray = ls at hl ⊢
  have hl : lv_has ls 1 [(0, .int x1)] := hl
  have eR : (headSpec wsX6_kindBy rmX6_kindBy).room = rmX6_kindBy := rfl
  rw [eR]
  have rt : ∀ (v : Int32) (t : St) (pc : Nat) (H : Heap) (locs : List Loc) (ls : Array Slot), decode cX6_kindBy pc = .ok (.ireturn, 1) → some v = some r → zz (dC, dI) 18 a (wdM cI cZ a hh σ) s.heap H locs → W p l e rmX6_kindBy s m args below meth c H locs 0 0 (MQ below (Qzi (dC, dI) 18 a (wdM cI cZ a hh σ) sz r) args s 0 0 (aN 18 a sz)) (F0 m pc ls [.int v]) := by
    intro v t pc H locs ls hd h hz
    cases h
    exact ziret hsz hx hb hr hlocks hz hd
  generalize (MQ below (Qzi (dC, dI) 18 a (wdM cI cZ a hh σ) sz r) args s 0 0 (aN 18 a sz)) = Q at rt ⊢
  unfold fX6_kindBy at h
  refine lv_iload_n hx hb dX6_kindBy_0 rfl (lv_at hl 0 rfl) ?_
  by_cases c1 : x1 = (58 : Int32)
  · replace h := ite_t c1 h
    refine lv_lookup (tgt := 66) (off := 65) hx hb dX6_kindBy_1 (by decide) (by rw [c1]; rfl) (by decide) ?_
    refine lv_iconst (v := (3 : Int32)) hx hb dX6_kindBy_66 (by decide) ?_
    exact rt (3 : Int32) σ 67 _ _ _ dX6_kindBy_67 h hz
  replace h := ite_f c1 h
  by_cases c2 : x1 = (97 : Int32)
  · replace h := ite_t c2 h
    refine lv_lookup (tgt := 68) (off := 67) hx hb dX6_kindBy_1 (by decide) (by rw [c2]; rfl) (by decide) ?_
    refine lv_iconst (v := (4 : Int32)) hx hb dX6_kindBy_68 (by decide) ?_
    exact rt (4 : Int32) σ 69 _ _ _ dX6_kindBy_69 h hz
  replace h := ite_f c2 h
  by_cases c3 : x1 = (98 : Int32)
  · replace h := ite_t c3 h
    refine lv_lookup (tgt := 64) (off := 63) hx hb dX6_kindBy_1 (by decide) (by rw [c3]; rfl) (by decide) ?_
    refine lv_iconst (v := (2 : Int32)) hx hb dX6_kindBy_64 (by decide) ?_
    exact rt (2 : Int32) σ 65 _ _ _ dX6_kindBy_65 h hz
  replace h := ite_f c3 h
  by_cases c4 : x1 = (108 : Int32)
  · replace h := ite_t c4 h
    refine lv_lookup (tgt := 62) (off := 61) hx hb dX6_kindBy_1 (by decide) (by rw [c4]; rfl) (by decide) ?_
    refine lv_iconst (v := (1 : Int32)) hx hb dX6_kindBy_62 (by decide) ?_
    exact rt (1 : Int32) σ 63 _ _ _ dX6_kindBy_63 h hz
  replace h := ite_f c4 h
  by_cases c5 : x1 = (110 : Int32)
  · replace h := ite_t c5 h
    refine lv_lookup (tgt := 60) (off := 59) hx hb dX6_kindBy_1 (by decide) (by rw [c5]; rfl) (by decide) ?_
    refine lv_iconst (v := (0 : Int32)) hx hb dX6_kindBy_60 (by decide) ?_
    exact rt (0 : Int32) σ 61 _ _ _ dX6_kindBy_61 h hz
  replace h := ite_f c5 h
  by_cases c6 : x1 = (114 : Int32)
  · replace h := ite_t c6 h
    refine lv_lookup (tgt := 70) (off := 69) hx hb dX6_kindBy_1 (by decide) (by rw [c6]; rfl) (by decide) ?_
    refine lv_iconst (v := (5 : Int32)) hx hb dX6_kindBy_70 (by decide) ?_
    exact rt (5 : Int32) σ 71 _ _ _ dX6_kindBy_71 h hz
  replace h := ite_f c6 h
  refine lv_lookup (tgt := 72) (off := 71) hx hb dX6_kindBy_1 (by decide) (by show Op.lookupswitch.offset [(58, 65), (97, 67), (98, 63), (108, 61), (110, 59), (114, 69)] 71 _ = _; rw [lv_osw c1 (a := 58) rfl, lv_osw c2 (a := 97) rfl, lv_osw c3 (a := 98) rfl, lv_osw c4 (a := 108) rfl, lv_osw c5 (a := 110) rfl, lv_osw c6 (a := 114) rfl]; rfl) (by decide) ?_
  refine lv_iconst (v := (-1 : Int32)) hx hb dX6_kindBy_72 (by decide) ?_
  exact rt (-1 : Int32) σ 73 _ _ _ dX6_kindBy_73 h hz
def fX6_keepItem (σ : St) (x1 : Int32) (x2 : Int32) : Option (St) :=
  (ck (¬ ((σ 44 0) < 0 ∨ 24 ≤ Int32.toNatClampNeg (σ 44 0))) <| (ck (¬ ((σ 44 0) < 0 ∨ 24 ≤ Int32.toNatClampNeg (σ 44 0))) <| some (si (si (sa (sa σ 5 (Int32.toNatClampNeg (σ 44 0)) x1) 6 (Int32.toNatClampNeg (σ 44 0)) x2) 44 ((σ 44 0) + (1 : Int32))) 45 (-1 : Int32))))
abbrev rmX6_keepItem : Room := { frames := 0, cells := 0, slots := 0, locals := 0 }
set_option maxHeartbeats 4000000 in
set_option maxRecDepth 100000 in
theorem KX6_keepItem {l : Launch} {dC : Nat → ClassId} {dI : Nat → Nat → Nat} {cI cZ : ClassId} {a : Nat → Nat} {hh : Int64} {σ : St} {x1 : Int32} {x2 : Int32} {σ2 : St} (hok : okA 18 a) (h : fX6_keepItem σ x1 x2 = some σ2) (sz : Nat) : Met l yX6_keepItem wsX6_keepItem rmX6_keepItem (Pz (dC, dI) cI cZ (wdM cI cZ a hh σ) sz [.ref (a 0), .int x1, .int x2]) (Qzv (dC, dI) 18 a (wdM cI cZ a hh σ2) sz) 0 0 (aN 18 a sz) := by
  refine Met.ofW (cc := cX6_keepItem) (maxL := 3) (ret := none) (by decide) rfl ?_
  intro p e s m args below meth c s₁ B hml hv
  obtain ⟨hav, hsz, hP, hKK⟩ := hv
  have hx := B.exec
  have hb := B.bytes
  have hr := B.returns
  have hts := atoms_spec (ws := wsX6_keepItem) B.pre
  have hown : s.vm.findClass RX6 = some m.cls := findClass_of_methodNamed B.named
  have hlocks := B.notSynchronized
  have CF : CallFix p m c cX6_keepItem 3 s args wsX6_keepItem RX6 := ⟨hx, hb, hml, hown, hts⟩
  have hz : zz (dC, dI) 18 a (wdM cI cZ a hh σ) s.heap s.heap [] := ⟨hP, va_S.rf⟩
  have hl := lv_entry [.ref (a 0), .int x1, .int x2] (n := 3) (Nat.le_of_ble_eq_true rfl)
  have hen : entryFrame m args 3 = entryFrame m ([.ref (a 0), .int x1, .int x2] : List Value).toArray 3 := by rw [hav]
  rw [hen, lg_entry_eq]
  generalize (lg_sl [.ref (a 0), .int x1, .int x2] ++ List.replicate (3 - (lg_sl [.ref (a 0), .int x1, .int x2]).length) Slot.unset).toArray = ls at hl ⊢
  have hl : lv_has ls 3 [(0, .ref (a 0)), (1, .int x1), (2, .int x2)] := hl
  have eR : (headSpec wsX6_keepItem rmX6_keepItem).room = rmX6_keepItem := rfl
  rw [eR]
  have rt : ∀ (t : St) (pc : Nat) (H : Heap) (locs : List Loc) (ls : Array Slot), decode cX6_keepItem pc = .ok (.return_, 1) → some t = some σ2 → zz (dC, dI) 18 a (wdM cI cZ a hh t) s.heap H locs → W p l e rmX6_keepItem s m args below meth c H locs 0 0 (MQ below (Qzv (dC, dI) 18 a (wdM cI cZ a hh σ2) sz) args s 0 0 (aN 18 a sz)) (F0 m pc ls []) := by
    intro t pc H locs ls hd h hz
    cases h
    exact zvret hsz hx hb hr hlocks hz hd
  generalize (MQ below (Qzv (dC, dI) 18 a (wdM cI cZ a hh σ2) sz) args s 0 0 (aN 18 a sz)) = Q at rt ⊢
  unfold fX6_keepItem at h
  refine lv_aload_n hx hb dX6_keepItem_0 rfl (lv_at hl 0 rfl) ?_
  refine va_get (v := .ref (a 5)) hx hb hts inX6_keepItem_X6 hown hKK.1 hz.1 0 rfl rfl 9 (by decide) (hts _ (List.mem_of_getElem? (i := 1) rfl)) (fun _ h9 => h9) rfl dX6_keepItem_1 ?_
  refine lv_aload_n hx hb dX6_keepItem_4 rfl (lv_at hl 0 rfl) ?_
  refine va_get (v := .int (σ 44 0)) hx hb hts inX6_keepItem_X6 hown hKK.1 hz.1 0 rfl rfl 8 (by decide) (hts _ (List.mem_of_getElem? (i := 2) rfl)) (fun _ h9 => h9) rfl dX6_keepItem_5 ?_
  refine lv_iload_n hx hb dX6_keepItem_8 rfl (lv_at hl 1 rfl) ?_
  obtain ⟨c1, h⟩ := ck_e h
  refine ziast (f := σ 5) (w' := wdM cI cZ a hh (sa σ 5 (Int32.toNatClampNeg (σ 44 0)) x1)) hx hb hKK hok wkM hz 5 rfl c1 setMa_5 dX6_keepItem_9 (fun H locs hz => ?_)
  refine lv_aload_n hx hb dX6_keepItem_10 rfl (lv_at hl 0 rfl) ?_
  refine va_get (v := .ref (a 6)) hx hb hts inX6_keepItem_X6 hown hKK.1 hz.1 0 rfl rfl 10 (by decide) (hts _ (List.mem_of_getElem? (i := 3) rfl)) (fun _ h9 => h9) rfl dX6_keepItem_11 ?_
  refine lv_aload_n hx hb dX6_keepItem_14 rfl (lv_at hl 0 rfl) ?_
  refine va_get (v := .int (σ 44 0)) hx hb hts inX6_keepItem_X6 hown hKK.1 hz.1 0 rfl rfl 8 (by decide) (hts _ (List.mem_of_getElem? (i := 2) rfl)) (fun _ h9 => h9) rfl dX6_keepItem_15 ?_
  refine lv_iload_n hx hb dX6_keepItem_18 rfl (lv_at hl 2 rfl) ?_
  obtain ⟨c2, h⟩ := ck_e h
  refine ziast (f := (sa σ 5 (Int32.toNatClampNeg (σ 44 0)) x1) 6) (w' := wdM cI cZ a hh (sa (sa σ 5 (Int32.toNatClampNeg (σ 44 0)) x1) 6 (Int32.toNatClampNeg (σ 44 0)) x2)) hx hb hKK hok wkM hz 6 rfl c2 setMa_6 dX6_keepItem_19 (fun H locs hz => ?_)
  refine lv_aload_n hx hb dX6_keepItem_20 rfl (lv_at hl 0 rfl) ?_
  refine lv_dup hx hb dX6_keepItem_21 rfl ?_
  refine va_get (v := .int (σ 44 0)) hx hb hts inX6_keepItem_X6 hown hKK.1 hz.1 0 rfl rfl 8 (by decide) (hts _ (List.mem_of_getElem? (i := 2) rfl)) (fun _ h9 => h9) rfl dX6_keepItem_22 ?_
  refine lv_iconst (v := (1 : Int32)) hx hb dX6_keepItem_25 (by decide) ?_
  refine lv_iadd hx hb dX6_keepItem_26 ?_
  refine zput (ty := .int) (w' := wdM cI cZ a hh (si (sa (sa σ 5 (Int32.toNatClampNeg (σ 44 0)) x1) 6 (Int32.toNatClampNeg (σ 44 0)) x2) 44 ((σ 44 0) + (1 : Int32)))) hx hb hts inX6_keepItem_X6 tyX6 tyX6_ok nmX6 hown hKK hok wkM hz 0 rfl rfl 8 (by decide) (hts _ (List.mem_of_getElem? (i := 2) rfl)) (fun _ h9 => h9) rfl rfl rfl rfl (Nat.le_of_ble_eq_true rfl) setMi_44 dX6_keepItem_27 (fun H locs hz => ?_)
  refine lv_aload_n hx hb dX6_keepItem_30 rfl (lv_at hl 0 rfl) ?_
  refine lv_iconst (v := (-1 : Int32)) hx hb dX6_keepItem_31 (by decide) ?_
  refine zput (ty := .int) (w' := wdM cI cZ a hh (si (si (sa (sa σ 5 (Int32.toNatClampNeg (σ 44 0)) x1) 6 (Int32.toNatClampNeg (σ 44 0)) x2) 44 ((σ 44 0) + (1 : Int32))) 45 (-1 : Int32))) hx hb hts inX6_keepItem_X6 tyX6 tyX6_ok nmX6 hown hKK hok wkM hz 0 rfl rfl 11 (by decide) (hts _ (List.mem_of_getElem? (i := 4) rfl)) (fun _ h9 => h9) rfl rfl rfl rfl (Nat.le_of_ble_eq_true rfl) setMi_45 dX6_keepItem_32 (fun H locs hz => ?_)
  exact rt (si (si (sa (sa σ 5 (Int32.toNatClampNeg (σ 44 0)) x1) 6 (Int32.toNatClampNeg (σ 44 0)) x2) 44 ((σ 44 0) + (1 : Int32))) 45 (-1 : Int32)) 35 _ _ _ dX6_keepItem_35 h hz
def fX6_takesFirst (σ : St) (x1 : Int32) : Option (Int32 × St) :=
  (bd1 (fX6_kindBy σ x1) fun r1 => (if r1 = (-1 : Int32) then (some ((0 : Int32), σ)) else ((if (σ 44 0) = (24 : Int32) then (some ((0 : Int32), σ)) else ((if r1 = (5 : Int32) then ((bd1 (fX6_keepItem σ (5 : Int32) (0 : Int32)) fun s8 => some ((1 : Int32), s8))) else (some ((1 : Int32), (si σ 45 r1)))))))))
abbrev rmX6_takesFirst : Room := { frames := 1, cells := 0, slots := 0, locals := 22 }
set_option maxHeartbeats 4000000 in
set_option maxRecDepth 100000 in
theorem KX6_takesFirst {l : Launch} {dC : Nat → ClassId} {dI : Nat → Nat → Nat} {cI cZ : ClassId} {a : Nat → Nat} {hh : Int64} {σ : St} {x1 : Int32} {r : Int32} {σ2 : St} (hok : okA 18 a) (h : fX6_takesFirst σ x1 = some (r, σ2)) (sz : Nat) : Met l yX6_takesFirst wsX6_takesFirst rmX6_takesFirst (Pz (dC, dI) cI cZ (wdM cI cZ a hh σ) sz [.ref (a 0), .int x1]) (Qzi (dC, dI) 18 a (wdM cI cZ a hh σ2) sz r) 0 0 (aN 18 a sz) := by
  refine Met.ofW (cc := cX6_takesFirst) (maxL := 3) (ret := (some .boolean)) (by decide) rfl ?_
  intro p e s m args below meth c s₁ B hml hv
  obtain ⟨hav, hsz, hP, hKK⟩ := hv
  have hx := B.exec
  have hb := B.bytes
  have hr := B.returns
  have hts := atoms_spec (ws := wsX6_takesFirst) B.pre
  have hown : s.vm.findClass RX6 = some m.cls := findClass_of_methodNamed B.named
  have hlocks := B.notSynchronized
  have CF : CallFix p m c cX6_takesFirst 3 s args wsX6_takesFirst RX6 := ⟨hx, hb, hml, hown, hts⟩
  have hz : zz (dC, dI) 18 a (wdM cI cZ a hh σ) s.heap s.heap [] := ⟨hP, va_S.rf⟩
  have hl := lv_entry [.ref (a 0), .int x1] (n := 3) (Nat.le_of_ble_eq_true rfl)
  have hen : entryFrame m args 3 = entryFrame m ([.ref (a 0), .int x1] : List Value).toArray 3 := by rw [hav]
  rw [hen, lg_entry_eq]
  generalize (lg_sl [.ref (a 0), .int x1] ++ List.replicate (3 - (lg_sl [.ref (a 0), .int x1]).length) Slot.unset).toArray = ls at hl ⊢
  have hl : lv_has ls 3 [(0, .ref (a 0)), (1, .int x1)] := hl
  have eR : (headSpec wsX6_takesFirst rmX6_takesFirst).room = rmX6_takesFirst := rfl
  rw [eR]
  have rt : ∀ (v : Int32) (t : St) (pc : Nat) (H : Heap) (locs : List Loc) (ls : Array Slot), decode cX6_takesFirst pc = .ok (.ireturn, 1) → some (v, t) = some (r, σ2) → zz (dC, dI) 18 a (wdM cI cZ a hh t) s.heap H locs → (v = 0 ∨ v = 1) → W p l e rmX6_takesFirst s m args below meth c H locs 0 0 (MQ below (Qzi (dC, dI) 18 a (wdM cI cZ a hh σ2) sz r) args s 0 0 (aN 18 a sz)) (F0 m pc ls [.int v]) := by
    intro v t pc H locs ls hd h hz hv
    cases h
    exact zzret hsz hx hb hr hlocks hv hz hd
  generalize (MQ below (Qzi (dC, dI) 18 a (wdM cI cZ a hh σ2) sz r) args s 0 0 (aN 18 a sz)) = Q at rt ⊢
  unfold fX6_takesFirst at h
  refine lv_iload_n hx hb dX6_takesFirst_0 rfl (lv_at hl 1 rfl) ?_
  obtain ⟨r1, e3, h⟩ := bd1_e h
  refine zcallSi (As := [.int x1]) (rest := []) CF hKK (KX6_kindBy (dC := dC) (dI := dI) (cI := cI) (cZ := cZ) (a := a) hok e3) (va_cwS 1 hts gX6_takesFirst_X6_kindBy rfl rfl rfl cdX6_kindBy.2 ⟨Nat.le_of_ble_eq_true rfl, Nat.le_of_ble_eq_true rfl⟩) hz rfl hl.1 rfl (Nat.le_of_ble_eq_true rfl) dX6_takesFirst_1 ⟨Nat.le_refl _, Nat.le_refl _⟩ (fun H locs hz => ?_)
  refine lv_istore_n (lv' := [(2, .int r1), (0, .ref (a 0)), (1, .int x1)]) hx hb dX6_takesFirst_4 rfl hl (by decide) rfl (fun ls hl => ?_)
  refine lv_iload_n hx hb dX6_takesFirst_5 rfl (lv_at hl 0 rfl) ?_
  refine lv_iconst (v := (-1 : Int32)) hx hb dX6_takesFirst_6 (by decide) ?_
  refine lv_icmp_eq (tgt := 19) hx hb dX6_takesFirst_7 (by decide) (fun c4 => ?_) (fun c4 => ?_)
  · replace h := ite_t c4 h
    refine lv_iconst (v := (0 : Int32)) hx hb dX6_takesFirst_19 (by decide) ?_
    exact rt (0 : Int32) σ 20 _ _ _ dX6_takesFirst_20 h hz (Or.inl rfl)
  · replace h := ite_f c4 h
    refine lv_aload_n hx hb dX6_takesFirst_10 rfl (lv_at hl 1 rfl) ?_
    refine va_get (v := .int (σ 44 0)) hx hb hts inX6_takesFirst_X6 hown hKK.1 hz.1 0 rfl rfl 8 (by decide) (hts _ (List.mem_of_getElem? (i := 1) rfl)) (fun _ h9 => h9) rfl dX6_takesFirst_11 ?_
    refine lv_bipush (v := (24 : Int32)) hx hb dX6_takesFirst_14 (by decide) ?_
    refine lv_icmp_ne (tgt := 21) hx hb dX6_takesFirst_16 (by decide) (fun c5 => ?_) (fun c5 => ?_)
    · replace h := ite_f c5 h
      refine lv_iload_n hx hb dX6_takesFirst_21 rfl (lv_at hl 0 rfl) ?_
      refine lv_iconst (v := (5 : Int32)) hx hb dX6_takesFirst_22 (by decide) ?_
      refine lv_icmp_ne (tgt := 35) hx hb dX6_takesFirst_23 (by decide) (fun c6 => ?_) (fun c6 => ?_)
      · replace h := ite_f c6 h
        refine lv_aload_n hx hb dX6_takesFirst_35 rfl (lv_at hl 1 rfl) ?_
        refine lv_iload_n hx hb dX6_takesFirst_36 rfl (lv_at hl 0 rfl) ?_
        refine zput (ty := .int) (w' := wdM cI cZ a hh (si σ 45 r1)) hx hb hts inX6_takesFirst_X6 tyX6 tyX6_ok nmX6 hown hKK hok wkM hz 0 rfl rfl 11 (by decide) (hts _ (List.mem_of_getElem? (i := 2) rfl)) (fun _ h9 => h9) rfl rfl rfl rfl (Nat.le_of_ble_eq_true rfl) setMi_45 dX6_takesFirst_37 (fun H locs hz => ?_)
        refine lv_iconst (v := (1 : Int32)) hx hb dX6_takesFirst_40 (by decide) ?_
        exact rt (1 : Int32) (si σ 45 r1) 41 _ _ _ dX6_takesFirst_41 h hz (Or.inr rfl)
      · replace h := ite_t c6 h
        refine lv_aload_n hx hb dX6_takesFirst_26 rfl (lv_at hl 1 rfl) ?_
        refine lv_iconst (v := (5 : Int32)) hx hb dX6_takesFirst_27 (by decide) ?_
        refine lv_iconst (v := (0 : Int32)) hx hb dX6_takesFirst_28 (by decide) ?_
        obtain ⟨s8, e9, h⟩ := bd1_e h
        refine zcallVv (As := [.int (5 : Int32), .int (0 : Int32)]) (rest := []) CF hKK (KX6_keepItem (dC := dC) (dI := dI) (cI := cI) (cZ := cZ) (a := a) hok e9) (cwV 2 hts gX6_takesFirst_X6_keepItem rfl rfl rfl cdX6_keepItem ⟨Nat.le_of_ble_eq_true rfl, Nat.le_of_ble_eq_true rfl⟩) 0 6 rfl rfl hz rfl hl.1 rfl (Nat.le_of_ble_eq_true rfl) dX6_takesFirst_29 ⟨Nat.le_refl _, Nat.le_refl _⟩ (fun H locs hz => ?_)
        refine lv_goto (tgt := 40) hx hb dX6_takesFirst_32 (by decide) ?_
        refine lv_iconst (v := (1 : Int32)) hx hb dX6_takesFirst_40 (by decide) ?_
        exact rt (1 : Int32) s8 41 _ _ _ dX6_takesFirst_41 h hz (Or.inr rfl)
    · replace h := ite_t c5 h
      refine lv_iconst (v := (0 : Int32)) hx hb dX6_takesFirst_19 (by decide) ?_
      exact rt (0 : Int32) σ 20 _ _ _ dX6_takesFirst_20 h hz (Or.inl rfl)
def fX6_takesLetter_b81  (σ : St) (y2 : Int32) (t0 : Int32) (t1 : Int32) : Option (Int32 × St) :=
  (bd1 (fX6_keepItem (si σ 47 (t1 ||| t0)) (σ 45 0) y2) fun s9 => some ((1 : Int32), s9))
def fX6_takesLetter_b57  (σ : St) (y2 : Int32) (t0 : Int32) (t1 : Int32) : Option (Int32 × St) :=
  (if (σ 45 0) = (2 : Int32) then (fX6_takesLetter_b81  (si σ 46 (t1 ||| t0)) y2 ((1 : Int32) <<< (y2 &&& 31)) (σ 47 0)) else (fX6_takesLetter_b81  (si σ 46 (t1 ||| t0)) y2 (0 : Int32) (σ 47 0)))
def fX6_takesLetter_b37  (σ : St) (y2 : Int32) : Option (Int32 × St) :=
  (if (σ 45 0) = (3 : Int32) then (fX6_takesLetter_b57  σ y2 ((1 : Int32) <<< (y2 &&& 31)) (σ 46 0)) else (fX6_takesLetter_b57  σ y2 (0 : Int32) (σ 46 0)))
def fX6_takesLetter (σ : St) (x1 : Int32) : Option (Int32 × St) :=
  (bd1 (fX6_within σ (x1 - (65 : Int32)) (0 : Int32) (7 : Int32)) fun r1 => (if r1 = 0 then (some ((0 : Int32), σ)) else ((if (σ 45 0) = (3 : Int32) then ((if (((σ 46 0) >>> ((x1 - (65 : Int32)) &&& 31)) &&& (1 : Int32)) = (1 : Int32) then (some ((0 : Int32), σ)) else (fX6_takesLetter_b37  σ (x1 - (65 : Int32))))) else (fX6_takesLetter_b37  σ (x1 - (65 : Int32)))))))
abbrev rmX6_takesLetter : Room := { frames := 1, cells := 0, slots := 0, locals := 22 }
set_option maxHeartbeats 4000000 in
set_option maxRecDepth 100000 in
theorem KX6_takesLetter {l : Launch} {dC : Nat → ClassId} {dI : Nat → Nat → Nat} {cI cZ : ClassId} {a : Nat → Nat} {hh : Int64} {σ : St} {x1 : Int32} {r : Int32} {σ2 : St} (hok : okA 18 a) (h : fX6_takesLetter σ x1 = some (r, σ2)) (sz : Nat) : Met l yX6_takesLetter wsX6_takesLetter rmX6_takesLetter (Pz (dC, dI) cI cZ (wdM cI cZ a hh σ) sz [.ref (a 0), .int x1]) (Qzi (dC, dI) 18 a (wdM cI cZ a hh σ2) sz r) 0 0 (aN 18 a sz) := by
  refine Met.ofW (cc := cX6_takesLetter) (maxL := 3) (ret := (some .boolean)) (by decide) rfl ?_
  intro p e s m args below meth c s₁ B hml hv
  obtain ⟨hav, hsz, hP, hKK⟩ := hv
  have hx := B.exec
  have hb := B.bytes
  have hr := B.returns
  have hts := atoms_spec (ws := wsX6_takesLetter) B.pre
  have hown : s.vm.findClass RX6 = some m.cls := findClass_of_methodNamed B.named
  have hlocks := B.notSynchronized
  have CF : CallFix p m c cX6_takesLetter 3 s args wsX6_takesLetter RX6 := ⟨hx, hb, hml, hown, hts⟩
  have hz : zz (dC, dI) 18 a (wdM cI cZ a hh σ) s.heap s.heap [] := ⟨hP, va_S.rf⟩
  have hl := lv_entry [.ref (a 0), .int x1] (n := 3) (Nat.le_of_ble_eq_true rfl)
  have hen : entryFrame m args 3 = entryFrame m ([.ref (a 0), .int x1] : List Value).toArray 3 := by rw [hav]
  rw [hen, lg_entry_eq]
  generalize (lg_sl [.ref (a 0), .int x1] ++ List.replicate (3 - (lg_sl [.ref (a 0), .int x1]).length) Slot.unset).toArray = ls at hl ⊢
  have hl : lv_has ls 3 [(0, .ref (a 0)), (1, .int x1)] := hl
  have eR : (headSpec wsX6_takesLetter rmX6_takesLetter).room = rmX6_takesLetter := rfl
  rw [eR]
  have rt : ∀ (v : Int32) (t : St) (pc : Nat) (H : Heap) (locs : List Loc) (ls : Array Slot), decode cX6_takesLetter pc = .ok (.ireturn, 1) → some (v, t) = some (r, σ2) → zz (dC, dI) 18 a (wdM cI cZ a hh t) s.heap H locs → (v = 0 ∨ v = 1) → W p l e rmX6_takesLetter s m args below meth c H locs 0 0 (MQ below (Qzi (dC, dI) 18 a (wdM cI cZ a hh σ2) sz r) args s 0 0 (aN 18 a sz)) (F0 m pc ls [.int v]) := by
    intro v t pc H locs ls hd h hz hv
    cases h
    exact zzret hsz hx hb hr hlocks hv hz hd
  generalize (MQ below (Qzi (dC, dI) 18 a (wdM cI cZ a hh σ2) sz r) args s 0 0 (aN 18 a sz)) = Q at rt ⊢
  have b81 : ∀  (σ : St) (y2 : Int32) (t0 : Int32) (t1 : Int32) (H : Heap) (locs : List Loc) (ls : Array Slot), fX6_takesLetter_b81  σ y2 t0 t1 = some (r, σ2) → zz (dC, dI) 18 a (wdM cI cZ a hh σ) s.heap H locs → lv_has ls 3 [(0, .ref (a 0)), (2, .int y2)] → W p l e rmX6_takesLetter s m args below meth c H locs 0 0 Q (F0 m 81 ls [.int t0, .int t1, .ref (a 0)]) := by
    intro  σ y2 t0 t1 H locs ls h hz hl
    unfold fX6_takesLetter_b81 at h
    refine lv_ior hx hb dX6_takesLetter_81 ?_
    refine zput (ty := .int) (w' := wdM cI cZ a hh (si σ 47 (t1 ||| t0))) hx hb hts inX6_takesLetter_X6 tyX6 tyX6_ok nmX6 hown hKK hok wkM hz 0 rfl rfl 13 (by decide) (hts _ (List.mem_of_getElem? (i := 3) rfl)) (fun _ h9 => h9) rfl rfl rfl rfl (Nat.le_of_ble_eq_true rfl) setMi_47 dX6_takesLetter_82 (fun H locs hz => ?_)
    refine lv_aload_n hx hb dX6_takesLetter_85 rfl (lv_at hl 0 rfl) ?_
    refine lv_aload_n hx hb dX6_takesLetter_86 rfl (lv_at hl 0 rfl) ?_
    refine va_get (v := .int (σ 45 0)) hx hb hts inX6_takesLetter_X6 hown hKK.1 hz.1 0 rfl rfl 11 (by decide) (hts _ (List.mem_of_getElem? (i := 1) rfl)) (fun _ h9 => h9) rfl dX6_takesLetter_87 ?_
    refine lv_iload_n hx hb dX6_takesLetter_90 rfl (lv_at hl 1 rfl) ?_
    obtain ⟨s9, e10, h⟩ := bd1_e h
    refine zcallVv (As := [.int (σ 45 0), .int y2]) (rest := []) CF hKK (KX6_keepItem (dC := dC) (dI := dI) (cI := cI) (cZ := cZ) (a := a) hok e10) (cwV 2 hts gX6_takesLetter_X6_keepItem rfl rfl rfl cdX6_keepItem ⟨Nat.le_of_ble_eq_true rfl, Nat.le_of_ble_eq_true rfl⟩) 0 6 rfl rfl hz rfl hl.1 rfl (Nat.le_of_ble_eq_true rfl) dX6_takesLetter_91 ⟨Nat.le_refl _, Nat.le_refl _⟩ (fun H locs hz => ?_)
    refine lv_iconst (v := (1 : Int32)) hx hb dX6_takesLetter_94 (by decide) ?_
    exact rt (1 : Int32) s9 95 _ _ _ dX6_takesLetter_95 h hz (Or.inr rfl)
  have b57 : ∀  (σ : St) (y2 : Int32) (t0 : Int32) (t1 : Int32) (H : Heap) (locs : List Loc) (ls : Array Slot), fX6_takesLetter_b57  σ y2 t0 t1 = some (r, σ2) → zz (dC, dI) 18 a (wdM cI cZ a hh σ) s.heap H locs → lv_has ls 3 [(0, .ref (a 0)), (2, .int y2)] → W p l e rmX6_takesLetter s m args below meth c H locs 0 0 Q (F0 m 57 ls [.int t0, .int t1, .ref (a 0)]) := by
    intro  σ y2 t0 t1 H locs ls h hz hl
    unfold fX6_takesLetter_b57 at h
    refine lv_ior hx hb dX6_takesLetter_57 ?_
    refine zput (ty := .int) (w' := wdM cI cZ a hh (si σ 46 (t1 ||| t0))) hx hb hts inX6_takesLetter_X6 tyX6 tyX6_ok nmX6 hown hKK hok wkM hz 0 rfl rfl 12 (by decide) (hts _ (List.mem_of_getElem? (i := 2) rfl)) (fun _ h9 => h9) rfl rfl rfl rfl (Nat.le_of_ble_eq_true rfl) setMi_46 dX6_takesLetter_58 (fun H locs hz => ?_)
    refine lv_aload_n hx hb dX6_takesLetter_61 rfl (lv_at hl 0 rfl) ?_
    refine lv_dup hx hb dX6_takesLetter_62 rfl ?_
    refine va_get (v := .int (σ 47 0)) hx hb hts inX6_takesLetter_X6 hown hKK.1 hz.1 0 rfl rfl 13 (by decide) (hts _ (List.mem_of_getElem? (i := 3) rfl)) (fun _ h9 => h9) rfl dX6_takesLetter_63 ?_
    refine lv_aload_n hx hb dX6_takesLetter_66 rfl (lv_at hl 0 rfl) ?_
    refine va_get (v := .int (σ 45 0)) hx hb hts inX6_takesLetter_X6 hown hKK.1 hz.1 0 rfl rfl 11 (by decide) (hts _ (List.mem_of_getElem? (i := 1) rfl)) (fun _ h9 => h9) rfl dX6_takesLetter_67 ?_
    refine lv_iconst (v := (2 : Int32)) hx hb dX6_takesLetter_70 (by decide) ?_
    refine lv_icmp_ne (tgt := 80) hx hb dX6_takesLetter_71 (by decide) (fun c7 => ?_) (fun c7 => ?_)
    · replace h := ite_f c7 h
      refine lv_iconst (v := (0 : Int32)) hx hb dX6_takesLetter_80 (by decide) ?_
      exact b81  (si σ 46 (t1 ||| t0)) y2 (0 : Int32) (σ 47 0) _ _ _ h hz (lv_sub hl [0, 1] rfl)
    · replace h := ite_t c7 h
      refine lv_iconst (v := (1 : Int32)) hx hb dX6_takesLetter_74 (by decide) ?_
      refine lv_iload_n hx hb dX6_takesLetter_75 rfl (lv_at hl 1 rfl) ?_
      refine lv_ishl hx hb dX6_takesLetter_76 ?_
      refine lv_goto (tgt := 81) hx hb dX6_takesLetter_77 (by decide) ?_
      exact b81  (si σ 46 (t1 ||| t0)) y2 ((1 : Int32) <<< (y2 &&& 31)) (σ 47 0) _ _ _ h hz (lv_sub hl [0, 1] rfl)
  have b37 : ∀  (σ : St) (y2 : Int32) (H : Heap) (locs : List Loc) (ls : Array Slot), fX6_takesLetter_b37  σ y2 = some (r, σ2) → zz (dC, dI) 18 a (wdM cI cZ a hh σ) s.heap H locs → lv_has ls 3 [(0, .ref (a 0)), (2, .int y2)] → W p l e rmX6_takesLetter s m args below meth c H locs 0 0 Q (F0 m 37 ls []) := by
    intro  σ y2 H locs ls h hz hl
    unfold fX6_takesLetter_b37 at h
    refine lv_aload_n hx hb dX6_takesLetter_37 rfl (lv_at hl 0 rfl) ?_
    refine lv_dup hx hb dX6_takesLetter_38 rfl ?_
    refine va_get (v := .int (σ 46 0)) hx hb hts inX6_takesLetter_X6 hown hKK.1 hz.1 0 rfl rfl 12 (by decide) (hts _ (List.mem_of_getElem? (i := 2) rfl)) (fun _ h9 => h9) rfl dX6_takesLetter_39 ?_
    refine lv_aload_n hx hb dX6_takesLetter_42 rfl (lv_at hl 0 rfl) ?_
    refine va_get (v := .int (σ 45 0)) hx hb hts inX6_takesLetter_X6 hown hKK.1 hz.1 0 rfl rfl 11 (by decide) (hts _ (List.mem_of_getElem? (i := 1) rfl)) (fun _ h9 => h9) rfl dX6_takesLetter_43 ?_
    refine lv_iconst (v := (3 : Int32)) hx hb dX6_takesLetter_46 (by decide) ?_
    refine lv_icmp_ne (tgt := 56) hx hb dX6_takesLetter_47 (by decide) (fun c6 => ?_) (fun c6 => ?_)
    · replace h := ite_f c6 h
      refine lv_iconst (v := (0 : Int32)) hx hb dX6_takesLetter_56 (by decide) ?_
      exact b57  σ y2 (0 : Int32) (σ 46 0) _ _ _ h hz (lv_sub hl [0, 1] rfl)
    · replace h := ite_t c6 h
      refine lv_iconst (v := (1 : Int32)) hx hb dX6_takesLetter_50 (by decide) ?_
      refine lv_iload_n hx hb dX6_takesLetter_51 rfl (lv_at hl 1 rfl) ?_
      refine lv_ishl hx hb dX6_takesLetter_52 ?_
      refine lv_goto (tgt := 57) hx hb dX6_takesLetter_53 (by decide) ?_
      exact b57  σ y2 ((1 : Int32) <<< (y2 &&& 31)) (σ 46 0) _ _ _ h hz (lv_sub hl [0, 1] rfl)
  unfold fX6_takesLetter at h
  refine lv_iload_n hx hb dX6_takesLetter_0 rfl (lv_at hl 1 rfl) ?_
  refine lv_bipush (v := (65 : Int32)) hx hb dX6_takesLetter_1 (by decide) ?_
  refine lv_isub hx hb dX6_takesLetter_3 ?_
  refine lv_istore_n (lv' := [(2, .int (x1 - (65 : Int32))), (0, .ref (a 0)), (1, .int x1)]) hx hb dX6_takesLetter_4 rfl hl (by decide) rfl (fun ls hl => ?_)
  refine lv_iload_n hx hb dX6_takesLetter_5 rfl (lv_at hl 0 rfl) ?_
  refine lv_iconst (v := (0 : Int32)) hx hb dX6_takesLetter_6 (by decide) ?_
  refine lv_bipush (v := (7 : Int32)) hx hb dX6_takesLetter_7 (by decide) ?_
  obtain ⟨r1, e3, h⟩ := bd1_e h
  refine zcallSi (As := [.int (x1 - (65 : Int32)), .int (0 : Int32), .int (7 : Int32)]) (rest := []) CF hKK (KX6_within (dC := dC) (dI := dI) (cI := cI) (cZ := cZ) (a := a) hok e3) (va_cwS 3 hts gX6_takesLetter_X6_within rfl rfl rfl cdX6_within.2 ⟨Nat.le_of_ble_eq_true rfl, Nat.le_of_ble_eq_true rfl⟩) hz rfl hl.1 rfl (Nat.le_of_ble_eq_true rfl) dX6_takesLetter_9 ⟨Nat.le_refl _, Nat.le_refl _⟩ (fun H locs hz => ?_)
  refine lv_if_eq (tgt := 35) hx hb dX6_takesLetter_12 (by decide) (fun c4 => ?_) (fun c4 => ?_)
  · replace h := ite_t c4 h
    refine lv_iconst (v := (0 : Int32)) hx hb dX6_takesLetter_35 (by decide) ?_
    exact rt (0 : Int32) σ 36 _ _ _ dX6_takesLetter_36 h hz (Or.inl rfl)
  · replace h := ite_f c4 h
    refine lv_aload_n hx hb dX6_takesLetter_15 rfl (lv_at hl 1 rfl) ?_
    refine va_get (v := .int (σ 45 0)) hx hb hts inX6_takesLetter_X6 hown hKK.1 hz.1 0 rfl rfl 11 (by decide) (hts _ (List.mem_of_getElem? (i := 1) rfl)) (fun _ h9 => h9) rfl dX6_takesLetter_16 ?_
    refine lv_iconst (v := (3 : Int32)) hx hb dX6_takesLetter_19 (by decide) ?_
    refine lv_icmp_ne (tgt := 37) hx hb dX6_takesLetter_20 (by decide) (fun c5 => ?_) (fun c5 => ?_)
    · replace h := ite_f c5 h
      exact b37  σ (x1 - (65 : Int32)) _ _ _ h hz (lv_sub hl [1, 0] rfl)
    · replace h := ite_t c5 h
      refine lv_aload_n hx hb dX6_takesLetter_23 rfl (lv_at hl 1 rfl) ?_
      refine va_get (v := .int (σ 46 0)) hx hb hts inX6_takesLetter_X6 hown hKK.1 hz.1 0 rfl rfl 12 (by decide) (hts _ (List.mem_of_getElem? (i := 2) rfl)) (fun _ h9 => h9) rfl dX6_takesLetter_24 ?_
      refine lv_iload_n hx hb dX6_takesLetter_27 rfl (lv_at hl 0 rfl) ?_
      refine lv_ishr hx hb dX6_takesLetter_28 ?_
      refine lv_iconst (v := (1 : Int32)) hx hb dX6_takesLetter_29 (by decide) ?_
      refine lv_iand hx hb dX6_takesLetter_30 ?_
      refine lv_iconst (v := (1 : Int32)) hx hb dX6_takesLetter_31 (by decide) ?_
      refine lv_icmp_ne (tgt := 37) hx hb dX6_takesLetter_32 (by decide) (fun c11 => ?_) (fun c11 => ?_)
      · replace h := ite_f c11 h
        exact b37  σ (x1 - (65 : Int32)) _ _ _ h hz (lv_sub hl [1, 0] rfl)
      · replace h := ite_t c11 h
        refine lv_iconst (v := (0 : Int32)) hx hb dX6_takesLetter_35 (by decide) ?_
        exact rt (0 : Int32) σ 36 _ _ _ dX6_takesLetter_36 h hz (Or.inl rfl)
def fX6_takesFigure_b66  (σ : St) (y2 : Int32) (t0 : Int32) (t1 : Int32) : Option (Int32 × St) :=
  (bd1 (fX6_keepItem σ t1 t0) fun s10 => (ck (y2 = 0 ∨ y2 = 1) <| some (y2, s10)))
def fX6_takesFigure_b41  (σ : St) (y1 : Int32) (t0 : Int32) : Option (Int32 × St) :=
  (if t0 = 0 then ((ck (t0 = 0 ∨ t0 = 1) <| some (t0, σ))) else ((if (σ 45 0) = (4 : Int32) then (fX6_takesFigure_b66  σ t0 ((1 : Int32) <<< (y1 &&& 31)) (σ 45 0)) else (fX6_takesFigure_b66  σ t0 y1 (σ 45 0)))))
def fX6_takesFigure (σ : St) (x1 : Int32) : Option (Int32 × St) :=
  (if (σ 45 0) = 0 then ((bd1 (fX6_within σ x1 (1 : Int32) (9 : Int32)) fun r16 => fX6_takesFigure_b41  σ x1 r16)) else ((if (σ 45 0) = (1 : Int32) then ((bd1 (fX6_within σ x1 (0 : Int32) (9 : Int32)) fun r13 => fX6_takesFigure_b41  σ x1 r13)) else ((bd1 (fX6_within σ x1 (1 : Int32) (3 : Int32)) fun r3 => fX6_takesFigure_b41  σ x1 r3)))))
abbrev rmX6_takesFigure : Room := { frames := 1, cells := 0, slots := 0, locals := 22 }
set_option maxHeartbeats 4000000 in
set_option maxRecDepth 100000 in
theorem KX6_takesFigure {l : Launch} {dC : Nat → ClassId} {dI : Nat → Nat → Nat} {cI cZ : ClassId} {a : Nat → Nat} {hh : Int64} {σ : St} {x1 : Int32} {r : Int32} {σ2 : St} (hok : okA 18 a) (h : fX6_takesFigure σ x1 = some (r, σ2)) (sz : Nat) : Met l yX6_takesFigure wsX6_takesFigure rmX6_takesFigure (Pz (dC, dI) cI cZ (wdM cI cZ a hh σ) sz [.ref (a 0), .int x1]) (Qzi (dC, dI) 18 a (wdM cI cZ a hh σ2) sz r) 0 0 (aN 18 a sz) := by
  refine Met.ofW (cc := cX6_takesFigure) (maxL := 3) (ret := (some .boolean)) (by decide) rfl ?_
  intro p e s m args below meth c s₁ B hml hv
  obtain ⟨hav, hsz, hP, hKK⟩ := hv
  have hx := B.exec
  have hb := B.bytes
  have hr := B.returns
  have hts := atoms_spec (ws := wsX6_takesFigure) B.pre
  have hown : s.vm.findClass RX6 = some m.cls := findClass_of_methodNamed B.named
  have hlocks := B.notSynchronized
  have CF : CallFix p m c cX6_takesFigure 3 s args wsX6_takesFigure RX6 := ⟨hx, hb, hml, hown, hts⟩
  have hz : zz (dC, dI) 18 a (wdM cI cZ a hh σ) s.heap s.heap [] := ⟨hP, va_S.rf⟩
  have hl := lv_entry [.ref (a 0), .int x1] (n := 3) (Nat.le_of_ble_eq_true rfl)
  have hen : entryFrame m args 3 = entryFrame m ([.ref (a 0), .int x1] : List Value).toArray 3 := by rw [hav]
  rw [hen, lg_entry_eq]
  generalize (lg_sl [.ref (a 0), .int x1] ++ List.replicate (3 - (lg_sl [.ref (a 0), .int x1]).length) Slot.unset).toArray = ls at hl ⊢
  have hl : lv_has ls 3 [(0, .ref (a 0)), (1, .int x1)] := hl
  have eR : (headSpec wsX6_takesFigure rmX6_takesFigure).room = rmX6_takesFigure := rfl
  rw [eR]
  have rt : ∀ (v : Int32) (t : St) (pc : Nat) (H : Heap) (locs : List Loc) (ls : Array Slot), decode cX6_takesFigure pc = .ok (.ireturn, 1) → some (v, t) = some (r, σ2) → zz (dC, dI) 18 a (wdM cI cZ a hh t) s.heap H locs → (v = 0 ∨ v = 1) → W p l e rmX6_takesFigure s m args below meth c H locs 0 0 (MQ below (Qzi (dC, dI) 18 a (wdM cI cZ a hh σ2) sz r) args s 0 0 (aN 18 a sz)) (F0 m pc ls [.int v]) := by
    intro v t pc H locs ls hd h hz hv
    cases h
    exact zzret hsz hx hb hr hlocks hv hz hd
  generalize (MQ below (Qzi (dC, dI) 18 a (wdM cI cZ a hh σ2) sz r) args s 0 0 (aN 18 a sz)) = Q at rt ⊢
  have b66 : ∀  (σ : St) (y2 : Int32) (t0 : Int32) (t1 : Int32) (H : Heap) (locs : List Loc) (ls : Array Slot), fX6_takesFigure_b66  σ y2 t0 t1 = some (r, σ2) → zz (dC, dI) 18 a (wdM cI cZ a hh σ) s.heap H locs → lv_has ls 3 [(2, .int y2)] → W p l e rmX6_takesFigure s m args below meth c H locs 0 0 Q (F0 m 66 ls [.int t0, .int t1, .ref (a 0)]) := by
    intro  σ y2 t0 t1 H locs ls h hz hl
    unfold fX6_takesFigure_b66 at h
    obtain ⟨s10, e11, h⟩ := bd1_e h
    refine zcallVv (As := [.int t1, .int t0]) (rest := []) CF hKK (KX6_keepItem (dC := dC) (dI := dI) (cI := cI) (cZ := cZ) (a := a) hok e11) (cwV 2 hts gX6_takesFigure_X6_keepItem rfl rfl rfl cdX6_keepItem ⟨Nat.le_of_ble_eq_true rfl, Nat.le_of_ble_eq_true rfl⟩) 0 6 rfl rfl hz rfl hl.1 rfl (Nat.le_of_ble_eq_true rfl) dX6_takesFigure_66 ⟨Nat.le_refl _, Nat.le_refl _⟩ (fun H locs hz => ?_)
    refine lv_iload_n hx hb dX6_takesFigure_69 rfl (lv_at hl 0 rfl) ?_
    obtain ⟨c12, h⟩ := ck_e h
    exact rt y2 s10 70 _ _ _ dX6_takesFigure_70 h hz c12
  have b41 : ∀  (σ : St) (y1 : Int32) (t0 : Int32) (H : Heap) (locs : List Loc) (ls : Array Slot), fX6_takesFigure_b41  σ y1 t0 = some (r, σ2) → zz (dC, dI) 18 a (wdM cI cZ a hh σ) s.heap H locs → lv_has ls 3 [(0, .ref (a 0)), (1, .int y1)] → W p l e rmX6_takesFigure s m args below meth c H locs 0 0 Q (F0 m 41 ls [.int t0]) := by
    intro  σ y1 t0 H locs ls h hz hl
    unfold fX6_takesFigure_b41 at h
    refine lv_istore_n (lv' := [(2, .int t0), (0, .ref (a 0)), (1, .int y1)]) hx hb dX6_takesFigure_41 rfl hl (by decide) rfl (fun ls hl => ?_)
    refine lv_iload_n hx hb dX6_takesFigure_42 rfl (lv_at hl 0 rfl) ?_
    refine lv_if_eq (tgt := 69) hx hb dX6_takesFigure_43 (by decide) (fun c6 => ?_) (fun c6 => ?_)
    · replace h := ite_t c6 h
      refine lv_iload_n hx hb dX6_takesFigure_69 rfl (lv_at hl 0 rfl) ?_
      obtain ⟨c7, h⟩ := ck_e h
      exact rt t0 σ 70 _ _ _ dX6_takesFigure_70 h hz c7
    · replace h := ite_f c6 h
      refine lv_aload_n hx hb dX6_takesFigure_46 rfl (lv_at hl 1 rfl) ?_
      refine lv_aload_n hx hb dX6_takesFigure_47 rfl (lv_at hl 1 rfl) ?_
      refine va_get (v := .int (σ 45 0)) hx hb hts inX6_takesFigure_X6 hown hKK.1 hz.1 0 rfl rfl 11 (by decide) (hts _ (List.mem_of_getElem? (i := 1) rfl)) (fun _ h9 => h9) rfl dX6_takesFigure_48 ?_
      refine lv_aload_n hx hb dX6_takesFigure_51 rfl (lv_at hl 1 rfl) ?_
      refine va_get (v := .int (σ 45 0)) hx hb hts inX6_takesFigure_X6 hown hKK.1 hz.1 0 rfl rfl 11 (by decide) (hts _ (List.mem_of_getElem? (i := 1) rfl)) (fun _ h9 => h9) rfl dX6_takesFigure_52 ?_
      refine lv_iconst (v := (4 : Int32)) hx hb dX6_takesFigure_55 (by decide) ?_
      refine lv_icmp_ne (tgt := 65) hx hb dX6_takesFigure_56 (by decide) (fun c8 => ?_) (fun c8 => ?_)
      · replace h := ite_f c8 h
        refine lv_iload_n hx hb dX6_takesFigure_65 rfl (lv_at hl 2 rfl) ?_
        exact b66  σ t0 y1 (σ 45 0) _ _ _ h hz (lv_sub hl [0] rfl)
      · replace h := ite_t c8 h
        refine lv_iconst (v := (1 : Int32)) hx hb dX6_takesFigure_59 (by decide) ?_
        refine lv_iload_n hx hb dX6_takesFigure_60 rfl (lv_at hl 2 rfl) ?_
        refine lv_ishl hx hb dX6_takesFigure_61 ?_
        refine lv_goto (tgt := 66) hx hb dX6_takesFigure_62 (by decide) ?_
        exact b66  σ t0 ((1 : Int32) <<< (y1 &&& 31)) (σ 45 0) _ _ _ h hz (lv_sub hl [0] rfl)
  unfold fX6_takesFigure at h
  refine lv_aload_n hx hb dX6_takesFigure_0 rfl (lv_at hl 0 rfl) ?_
  refine va_get (v := .int (σ 45 0)) hx hb hts inX6_takesFigure_X6 hown hKK.1 hz.1 0 rfl rfl 11 (by decide) (hts _ (List.mem_of_getElem? (i := 1) rfl)) (fun _ h9 => h9) rfl dX6_takesFigure_1 ?_
  refine lv_if_ne (tgt := 17) hx hb dX6_takesFigure_4 (by decide) (fun c1 => ?_) (fun c1 => ?_)
  · replace h := ite_f c1 h
    refine lv_aload_n hx hb dX6_takesFigure_17 rfl (lv_at hl 0 rfl) ?_
    refine va_get (v := .int (σ 45 0)) hx hb hts inX6_takesFigure_X6 hown hKK.1 hz.1 0 rfl rfl 11 (by decide) (hts _ (List.mem_of_getElem? (i := 1) rfl)) (fun _ h9 => h9) rfl dX6_takesFigure_18 ?_
    refine lv_iconst (v := (1 : Int32)) hx hb dX6_takesFigure_21 (by decide) ?_
    refine lv_icmp_ne (tgt := 35) hx hb dX6_takesFigure_22 (by decide) (fun c2 => ?_) (fun c2 => ?_)
    · replace h := ite_f c2 h
      refine lv_iload_n hx hb dX6_takesFigure_35 rfl (lv_at hl 1 rfl) ?_
      refine lv_iconst (v := (1 : Int32)) hx hb dX6_takesFigure_36 (by decide) ?_
      refine lv_iconst (v := (3 : Int32)) hx hb dX6_takesFigure_37 (by decide) ?_
      obtain ⟨r3, e5, h⟩ := bd1_e h
      refine zcallSi (As := [.int x1, .int (1 : Int32), .int (3 : Int32)]) (rest := []) CF hKK (KX6_within (dC := dC) (dI := dI) (cI := cI) (cZ := cZ) (a := a) hok e5) (va_cwS 3 hts gX6_takesFigure_X6_within rfl rfl rfl cdX6_within.2 ⟨Nat.le_of_ble_eq_true rfl, Nat.le_of_ble_eq_true rfl⟩) hz rfl hl.1 rfl (Nat.le_of_ble_eq_true rfl) dX6_takesFigure_38 ⟨Nat.le_refl _, Nat.le_refl _⟩ (fun H locs hz => ?_)
      exact b41  σ x1 r3 _ _ _ h hz (lv_sub hl [0, 1] rfl)
    · replace h := ite_t c2 h
      refine lv_iload_n hx hb dX6_takesFigure_25 rfl (lv_at hl 1 rfl) ?_
      refine lv_iconst (v := (0 : Int32)) hx hb dX6_takesFigure_26 (by decide) ?_
      refine lv_bipush (v := (9 : Int32)) hx hb dX6_takesFigure_27 (by decide) ?_
      obtain ⟨r13, e15, h⟩ := bd1_e h
      refine zcallSi (As := [.int x1, .int (0 : Int32), .int (9 : Int32)]) (rest := []) CF hKK (KX6_within (dC := dC) (dI := dI) (cI := cI) (cZ := cZ) (a := a) hok e15) (va_cwS 3 hts gX6_takesFigure_X6_within rfl rfl rfl cdX6_within.2 ⟨Nat.le_of_ble_eq_true rfl, Nat.le_of_ble_eq_true rfl⟩) hz rfl hl.1 rfl (Nat.le_of_ble_eq_true rfl) dX6_takesFigure_29 ⟨Nat.le_refl _, Nat.le_refl _⟩ (fun H locs hz => ?_)
      refine lv_goto (tgt := 41) hx hb dX6_takesFigure_32 (by decide) ?_
      exact b41  σ x1 r13 _ _ _ h hz (lv_sub hl [0, 1] rfl)
  · replace h := ite_t c1 h
    refine lv_iload_n hx hb dX6_takesFigure_7 rfl (lv_at hl 1 rfl) ?_
    refine lv_iconst (v := (1 : Int32)) hx hb dX6_takesFigure_8 (by decide) ?_
    refine lv_bipush (v := (9 : Int32)) hx hb dX6_takesFigure_9 (by decide) ?_
    obtain ⟨r16, e18, h⟩ := bd1_e h
    refine zcallSi (As := [.int x1, .int (1 : Int32), .int (9 : Int32)]) (rest := []) CF hKK (KX6_within (dC := dC) (dI := dI) (cI := cI) (cZ := cZ) (a := a) hok e18) (va_cwS 3 hts gX6_takesFigure_X6_within rfl rfl rfl cdX6_within.2 ⟨Nat.le_of_ble_eq_true rfl, Nat.le_of_ble_eq_true rfl⟩) hz rfl hl.1 rfl (Nat.le_of_ble_eq_true rfl) dX6_takesFigure_11 ⟨Nat.le_refl _, Nat.le_refl _⟩ (fun H locs hz => ?_)
    refine lv_goto (tgt := 41) hx hb dX6_takesFigure_14 (by decide) ?_
    exact b41  σ x1 r16 _ _ _ h hz (lv_sub hl [0, 1] rfl)
def fX6_takes_b30  (σ : St) (y1 : Int32) : Option (Int32 × St) :=
  (bd2 (fX6_takesLetter σ y1) fun r3 s4 => (ck (r3 = 0 ∨ r3 = 1) <| some (r3, s4)))
def fX6_takes (σ : St) (x1 : Int32) : Option (Int32 × St) :=
  (if (σ 45 0) = (-1 : Int32) then ((bd2 (fX6_takesFirst σ x1) fun r12 s13 => (ck (r12 = 0 ∨ r12 = 1) <| some (r12, s13)))) else ((if (σ 45 0) = (2 : Int32) then (fX6_takes_b30  σ x1) else ((if (σ 45 0) = (3 : Int32) then (fX6_takes_b30  σ x1) else ((bd2 (fX6_takesFigure σ (x1 - (48 : Int32))) fun r8 s9 => (ck (r8 = 0 ∨ r8 = 1) <| some (r8, s9)))))))))
abbrev rmX6_takes : Room := { frames := 2, cells := 0, slots := 0, locals := 44 }
set_option maxHeartbeats 4000000 in
set_option maxRecDepth 100000 in
theorem KX6_takes {l : Launch} {dC : Nat → ClassId} {dI : Nat → Nat → Nat} {cI cZ : ClassId} {a : Nat → Nat} {hh : Int64} {σ : St} {x1 : Int32} {r : Int32} {σ2 : St} (hok : okA 18 a) (h : fX6_takes σ x1 = some (r, σ2)) (sz : Nat) : Met l yX6_takes wsX6_takes rmX6_takes (Pz (dC, dI) cI cZ (wdM cI cZ a hh σ) sz [.ref (a 0), .int x1]) (Qzi (dC, dI) 18 a (wdM cI cZ a hh σ2) sz r) 0 0 (aN 18 a sz) := by
  refine Met.ofW (cc := cX6_takes) (maxL := 2) (ret := (some .boolean)) (by decide) rfl ?_
  intro p e s m args below meth c s₁ B hml hv
  obtain ⟨hav, hsz, hP, hKK⟩ := hv
  have hx := B.exec
  have hb := B.bytes
  have hr := B.returns
  have hts := atoms_spec (ws := wsX6_takes) B.pre
  have hown : s.vm.findClass RX6 = some m.cls := findClass_of_methodNamed B.named
  have hlocks := B.notSynchronized
  have CF : CallFix p m c cX6_takes 2 s args wsX6_takes RX6 := ⟨hx, hb, hml, hown, hts⟩
  have hz : zz (dC, dI) 18 a (wdM cI cZ a hh σ) s.heap s.heap [] := ⟨hP, va_S.rf⟩
  have hl := lv_entry [.ref (a 0), .int x1] (n := 2) (Nat.le_of_ble_eq_true rfl)
  have hen : entryFrame m args 2 = entryFrame m ([.ref (a 0), .int x1] : List Value).toArray 2 := by rw [hav]
  rw [hen, lg_entry_eq]
  generalize (lg_sl [.ref (a 0), .int x1] ++ List.replicate (2 - (lg_sl [.ref (a 0), .int x1]).length) Slot.unset).toArray = ls at hl ⊢
  have hl : lv_has ls 2 [(0, .ref (a 0)), (1, .int x1)] := hl
  have eR : (headSpec wsX6_takes rmX6_takes).room = rmX6_takes := rfl
  rw [eR]
  have rt : ∀ (v : Int32) (t : St) (pc : Nat) (H : Heap) (locs : List Loc) (ls : Array Slot), decode cX6_takes pc = .ok (.ireturn, 1) → some (v, t) = some (r, σ2) → zz (dC, dI) 18 a (wdM cI cZ a hh t) s.heap H locs → (v = 0 ∨ v = 1) → W p l e rmX6_takes s m args below meth c H locs 0 0 (MQ below (Qzi (dC, dI) 18 a (wdM cI cZ a hh σ2) sz r) args s 0 0 (aN 18 a sz)) (F0 m pc ls [.int v]) := by
    intro v t pc H locs ls hd h hz hv
    cases h
    exact zzret hsz hx hb hr hlocks hv hz hd
  generalize (MQ below (Qzi (dC, dI) 18 a (wdM cI cZ a hh σ2) sz r) args s 0 0 (aN 18 a sz)) = Q at rt ⊢
  have b30 : ∀  (σ : St) (y1 : Int32) (H : Heap) (locs : List Loc) (ls : Array Slot), fX6_takes_b30  σ y1 = some (r, σ2) → zz (dC, dI) 18 a (wdM cI cZ a hh σ) s.heap H locs → lv_has ls 2 [(0, .ref (a 0)), (1, .int y1)] → W p l e rmX6_takes s m args below meth c H locs 0 0 Q (F0 m 30 ls []) := by
    intro  σ y1 H locs ls h hz hl
    unfold fX6_takes_b30 at h
    refine lv_aload_n hx hb dX6_takes_30 rfl (lv_at hl 0 rfl) ?_
    refine lv_iload_n hx hb dX6_takes_31 rfl (lv_at hl 1 rfl) ?_
    obtain ⟨r3, s4, e5, h⟩ := bd2_e h
    refine zcallVi (As := [.int y1]) (rest := []) CF hKK (KX6_takesLetter (dC := dC) (dI := dI) (cI := cI) (cZ := cZ) (a := a) hok e5) (cwV 1 hts gX6_takes_X6_takesLetter rfl rfl rfl cdX6_takesLetter ⟨Nat.le_of_ble_eq_true rfl, Nat.le_of_ble_eq_true rfl⟩) 0 6 rfl rfl hz rfl hl.1 rfl (Nat.le_of_ble_eq_true rfl) dX6_takes_32 ⟨Nat.le_refl _, Nat.le_refl _⟩ (fun H locs hz => ?_)
    refine lv_goto (tgt := 46) hx hb dX6_takes_35 (by decide) ?_
    obtain ⟨c6, h⟩ := ck_e h
    exact rt r3 s4 46 _ _ _ dX6_takes_46 h hz c6
  unfold fX6_takes at h
  refine lv_aload_n hx hb dX6_takes_0 rfl (lv_at hl 0 rfl) ?_
  refine va_get (v := .int (σ 45 0)) hx hb hts inX6_takes_X6 hown hKK.1 hz.1 0 rfl rfl 11 (by decide) (hts _ (List.mem_of_getElem? (i := 1) rfl)) (fun _ h9 => h9) rfl dX6_takes_1 ?_
  refine lv_iconst (v := (-1 : Int32)) hx hb dX6_takes_4 (by decide) ?_
  refine lv_icmp_ne (tgt := 14) hx hb dX6_takes_5 (by decide) (fun c1 => ?_) (fun c1 => ?_)
  · replace h := ite_f c1 h
    refine lv_aload_n hx hb dX6_takes_14 rfl (lv_at hl 0 rfl) ?_
    refine va_get (v := .int (σ 45 0)) hx hb hts inX6_takes_X6 hown hKK.1 hz.1 0 rfl rfl 11 (by decide) (hts _ (List.mem_of_getElem? (i := 1) rfl)) (fun _ h9 => h9) rfl dX6_takes_15 ?_
    refine lv_iconst (v := (2 : Int32)) hx hb dX6_takes_18 (by decide) ?_
    refine lv_icmp_eq (tgt := 30) hx hb dX6_takes_19 (by decide) (fun c2 => ?_) (fun c2 => ?_)
    · replace h := ite_t c2 h
      exact b30  σ x1 _ _ _ h hz (lv_sub hl [0, 1] rfl)
    · replace h := ite_f c2 h
      refine lv_aload_n hx hb dX6_takes_22 rfl (lv_at hl 0 rfl) ?_
      refine va_get (v := .int (σ 45 0)) hx hb hts inX6_takes_X6 hown hKK.1 hz.1 0 rfl rfl 11 (by decide) (hts _ (List.mem_of_getElem? (i := 1) rfl)) (fun _ h9 => h9) rfl dX6_takes_23 ?_
      refine lv_iconst (v := (3 : Int32)) hx hb dX6_takes_26 (by decide) ?_
      refine lv_icmp_ne (tgt := 38) hx hb dX6_takes_27 (by decide) (fun c7 => ?_) (fun c7 => ?_)
      · replace h := ite_f c7 h
        refine lv_aload_n hx hb dX6_takes_38 rfl (lv_at hl 0 rfl) ?_
        refine lv_iload_n hx hb dX6_takes_39 rfl (lv_at hl 1 rfl) ?_
        refine lv_bipush (v := (48 : Int32)) hx hb dX6_takes_40 (by decide) ?_
        refine lv_isub hx hb dX6_takes_42 ?_
        obtain ⟨r8, s9, e10, h⟩ := bd2_e h
        refine zcallVi (As := [.int (x1 - (48 : Int32))]) (rest := []) CF hKK (KX6_takesFigure (dC := dC) (dI := dI) (cI := cI) (cZ := cZ) (a := a) hok e10) (cwV 1 hts gX6_takes_X6_takesFigure rfl rfl rfl cdX6_takesFigure ⟨Nat.le_of_ble_eq_true rfl, Nat.le_of_ble_eq_true rfl⟩) 0 6 rfl rfl hz rfl hl.1 rfl (Nat.le_of_ble_eq_true rfl) dX6_takes_43 ⟨Nat.le_refl _, Nat.le_refl _⟩ (fun H locs hz => ?_)
        obtain ⟨c11, h⟩ := ck_e h
        exact rt r8 s9 46 _ _ _ dX6_takes_46 h hz c11
      · replace h := ite_t c7 h
        exact b30  σ x1 _ _ _ h hz (lv_sub hl [0, 1] rfl)
  · replace h := ite_t c1 h
    refine lv_aload_n hx hb dX6_takes_8 rfl (lv_at hl 0 rfl) ?_
    refine lv_iload_n hx hb dX6_takes_9 rfl (lv_at hl 1 rfl) ?_
    obtain ⟨r12, s13, e14, h⟩ := bd2_e h
    refine zcallVi (As := [.int x1]) (rest := []) CF hKK (KX6_takesFirst (dC := dC) (dI := dI) (cI := cI) (cZ := cZ) (a := a) hok e14) (cwV 1 hts gX6_takes_X6_takesFirst rfl rfl rfl cdX6_takesFirst ⟨Nat.le_of_ble_eq_true rfl, Nat.le_of_ble_eq_true rfl⟩) 0 6 rfl rfl hz rfl hl.1 rfl (Nat.le_of_ble_eq_true rfl) dX6_takes_10 ⟨Nat.le_refl _, Nat.le_refl _⟩ (fun H locs hz => ?_)
    obtain ⟨c15, h⟩ := ck_e h
    exact rt r12 s13 13 _ _ _ dX6_takes_13 h hz c15
