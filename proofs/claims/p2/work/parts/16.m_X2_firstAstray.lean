def fX2_firstAstray_s2 (σ : St) (k2 : Int32 → Int32 → Int32 → Option (Int32)) (y1 : Int32) (y2 : Int32) (y3 : Int32) : Option (Int32) :=
  (bd1 (fX0_size_p σ ) fun r1 => (if r1 ≤ y3 then (some (-1 : Int32)) else ((bd1 (fX0_kindOf_p σ y3) fun r5 => (if r5 = y1 then ((bd1 (fX2_isLong σ y3) fun r9 => (if r9 = y2 then ((bd1 (fX2_aimOf σ y3) fun r13 => (if r13 = (-1 : Int32) then (some y3) else (k2 y1 y2 (y3 + (1 : Int32)))))) else (k2 y1 y2 (y3 + (1 : Int32)))))) else (k2 y1 y2 (y3 + (1 : Int32))))))))
def fX2_firstAstray_l2 (σ : St)  : Nat → Int32 → Int32 → Int32 → Option (Int32) :=
  itr (fX2_firstAstray_s2 σ ) (fun _ _ _ => none)
def fX2_firstAstray (σ : St) (x1 : Int32) (x2 : Int32) : Option (Int32) :=
  fX2_firstAstray_l2 σ  FU x1 x2 (0 : Int32)
abbrev rmX2_firstAstray : Room := { frames := 2, cells := 0, slots := 0, locals := 42 }
set_option maxHeartbeats 4000000 in
set_option maxRecDepth 100000 in
theorem KX2_firstAstray {l : Launch} {dC : Nat → ClassId} {dI : Nat → Nat → Nat} {cI cZ : ClassId} {a : Nat → Nat} {σ : St} {x1 : Int32} {x2 : Int32} {r : Int32} (hok : okA 30 a) (h : fX2_firstAstray σ x1 x2 = some r) (sz : Nat) : Met l yX2_firstAstray wsX2_firstAstray rmX2_firstAstray (Pz (dC, dI) cI cZ (wdC cI cZ a σ) sz [.ref (a 11), .int x1, .int x2]) (Qzi (dC, dI) 30 a (wdC cI cZ a σ) sz r) 0 0 (aN 30 a sz) := by
  refine Met.ofW (cc := cX2_firstAstray) (maxL := 4) (ret := (some .int)) (by decide) rfl ?_
  intro p e s m args below meth c s₁ B hml hv
  obtain ⟨hav, hsz, hP, hKK⟩ := hv
  have hx := B.exec
  have hb := B.bytes
  have hr := B.returns
  have hts := atoms_spec (ws := wsX2_firstAstray) B.pre
  have hown : s.vm.findClass RX2 = some m.cls := findClass_of_methodNamed B.named
  have hlocks := B.notSynchronized
  have CF : CallFix p m c cX2_firstAstray 4 s args wsX2_firstAstray RX2 := ⟨hx, hb, hml, hown, hts⟩
  have hz : zz (dC, dI) 30 a (wdC cI cZ a σ) s.heap s.heap [] := ⟨hP, va_S.rf⟩
  have hl := lv_entry [.ref (a 11), .int x1, .int x2] (n := 4) (Nat.le_of_ble_eq_true rfl)
  have hen : entryFrame m args 4 = entryFrame m ([.ref (a 11), .int x1, .int x2] : List Value).toArray 4 := by rw [hav]
  rw [hen, lg_entry_eq]
  generalize (lg_sl [.ref (a 11), .int x1, .int x2] ++ List.replicate (4 - (lg_sl [.ref (a 11), .int x1, .int x2]).length) Slot.unset).toArray = ls at hl ⊢
  have hl : lv_has ls 4 [(0, .ref (a 11)), (1, .int x1), (2, .int x2)] := hl
  have eR : (headSpec wsX2_firstAstray rmX2_firstAstray).room = rmX2_firstAstray := rfl
  rw [eR]
  have rt : ∀ (v : Int32) (t : St) (pc : Nat) (H : Heap) (locs : List Loc) (ls : Array Slot), decode cX2_firstAstray pc = .ok (.ireturn, 1) → some v = some r → zz (dC, dI) 30 a (wdC cI cZ a σ) s.heap H locs → W p l e rmX2_firstAstray s m args below meth c H locs 0 0 (MQ below (Qzi (dC, dI) 30 a (wdC cI cZ a σ) sz r) args s 0 0 (aN 30 a sz)) (F0 m pc ls [.int v]) := by
    intro v t pc H locs ls hd h hz
    cases h
    exact ziret hsz hx hb hr hlocks hz hd
  generalize (MQ below (Qzi (dC, dI) 30 a (wdC cI cZ a σ) sz r) args s 0 0 (aN 30 a sz)) = Q at rt ⊢
  have s2 : ∀ (k2 : Int32 → Int32 → Int32 → Option (Int32)) (hk2 : (∀ (y1 : Int32) (y2 : Int32) (y3 : Int32) (H : Heap) (locs : List Loc) (ls : Array Slot), k2 y1 y2 y3 = some r → zz (dC, dI) 30 a (wdC cI cZ a σ) s.heap H locs → lv_has ls 4 [(0, .ref (a 11)), (1, .int y1), (2, .int y2), (3, .int y3)] → W p l e rmX2_firstAstray s m args below meth c H locs 0 0 Q (F0 m 2 ls []))) (y1 : Int32) (y2 : Int32) (y3 : Int32) (H : Heap) (locs : List Loc) (ls : Array Slot), fX2_firstAstray_s2 σ k2 y1 y2 y3 = some r → zz (dC, dI) 30 a (wdC cI cZ a σ) s.heap H locs → lv_has ls 4 [(0, .ref (a 11)), (1, .int y1), (2, .int y2), (3, .int y3)] → W p l e rmX2_firstAstray s m args below meth c H locs 0 0 Q (F0 m 2 ls []) := by
    intro k2 hk2 y1 y2 y3 H locs ls h hz hl
    unfold fX2_firstAstray_s2 at h
    refine lv_iload_n hx hb dX2_firstAstray_2 rfl (lv_at hl 3 rfl) ?_
    refine lv_aload_n hx hb dX2_firstAstray_3 rfl (lv_at hl 0 rfl) ?_
    refine va_get (v := .ref (a 7)) hx hb hts inX2_firstAstray_X2 hown hKK.1 hz.1 11 rfl rfl 0 (by decide) (hts _ (List.mem_of_getElem? (i := 1) rfl)) (fun _ h9 => h9) rfl dX2_firstAstray_4 ?_
    obtain ⟨r1, e3, h⟩ := bd1_e h
    refine zcallVi (As := []) (rest := [.int y3]) CF hKK (KX0_size_p (dC := dC) (dI := dI) (cI := cI) (cZ := cZ) (a := a) hok e3) (cwV 0 hts gX2_firstAstray_X0_size rfl rfl rfl cdX0_size ⟨Nat.le_of_ble_eq_true rfl, Nat.le_of_ble_eq_true rfl⟩) 7 0 rfl rfl hz rfl hl.1 rfl (Nat.le_of_ble_eq_true rfl) dX2_firstAstray_7 ⟨Nat.le_refl _, Nat.le_refl _⟩ (fun H locs hz => ?_)
    refine lv_icmp_ge (tgt := 51) hx hb dX2_firstAstray_10 (by decide) (fun c4 => ?_) (fun c4 => ?_)
    · replace h := ite_t c4 h
      refine lv_iconst (v := (-1 : Int32)) hx hb dX2_firstAstray_51 (by decide) ?_
      exact rt (-1 : Int32) σ 52 _ _ _ dX2_firstAstray_52 h hz
    · replace h := ite_f c4 h
      refine lv_aload_n hx hb dX2_firstAstray_13 rfl (lv_at hl 0 rfl) ?_
      refine va_get (v := .ref (a 7)) hx hb hts inX2_firstAstray_X2 hown hKK.1 hz.1 11 rfl rfl 0 (by decide) (hts _ (List.mem_of_getElem? (i := 1) rfl)) (fun _ h9 => h9) rfl dX2_firstAstray_14 ?_
      refine lv_iload_n hx hb dX2_firstAstray_17 rfl (lv_at hl 3 rfl) ?_
      obtain ⟨r5, e7, h⟩ := bd1_e h
      refine zcallVi (As := [.int y3]) (rest := []) CF hKK (KX0_kindOf_p (dC := dC) (dI := dI) (cI := cI) (cZ := cZ) (a := a) hok e7) (cwV 1 hts gX2_firstAstray_X0_kindOf rfl rfl rfl cdX0_kindOf ⟨Nat.le_of_ble_eq_true rfl, Nat.le_of_ble_eq_true rfl⟩) 7 0 rfl rfl hz rfl hl.1 rfl (Nat.le_of_ble_eq_true rfl) dX2_firstAstray_18 ⟨Nat.le_refl _, Nat.le_refl _⟩ (fun H locs hz => ?_)
      refine lv_iload_n hx hb dX2_firstAstray_21 rfl (lv_at hl 1 rfl) ?_
      refine lv_icmp_ne (tgt := 45) hx hb dX2_firstAstray_22 (by decide) (fun c8 => ?_) (fun c8 => ?_)
      · replace h := ite_f c8 h
        refine lv_iinc (v := (y3 + (1 : Int32))) (lv' := [(3, .int (y3 + (1 : Int32))), (0, .ref (a 11)), (1, .int y1), (2, .int y2)]) hx hb dX2_firstAstray_45 hl (k := 3) rfl rfl (by decide) rfl (fun ls hl => ?_)
        refine lv_goto (tgt := 2) hx hb dX2_firstAstray_48 (by decide) ?_
        exact hk2 y1 y2 (y3 + (1 : Int32)) _ _ _ h hz (lv_sub hl [1, 2, 3, 0] rfl)
      · replace h := ite_t c8 h
        refine lv_aload_n hx hb dX2_firstAstray_25 rfl (lv_at hl 0 rfl) ?_
        refine lv_iload_n hx hb dX2_firstAstray_26 rfl (lv_at hl 3 rfl) ?_
        obtain ⟨r9, e11, h⟩ := bd1_e h
        refine zcallVi (As := [.int y3]) (rest := []) CF hKK (KX2_isLong (dC := dC) (dI := dI) (cI := cI) (cZ := cZ) (a := a) hok e11) (cwV 1 hts gX2_firstAstray_X2_isLong rfl rfl rfl cdX2_isLong ⟨Nat.le_of_ble_eq_true rfl, Nat.le_of_ble_eq_true rfl⟩) 11 2 rfl rfl hz rfl hl.1 rfl (Nat.le_of_ble_eq_true rfl) dX2_firstAstray_27 ⟨Nat.le_refl _, Nat.le_refl _⟩ (fun H locs hz => ?_)
        refine lv_iload_n hx hb dX2_firstAstray_30 rfl (lv_at hl 2 rfl) ?_
        refine lv_icmp_ne (tgt := 45) hx hb dX2_firstAstray_31 (by decide) (fun c12 => ?_) (fun c12 => ?_)
        · replace h := ite_f c12 h
          refine lv_iinc (v := (y3 + (1 : Int32))) (lv' := [(3, .int (y3 + (1 : Int32))), (0, .ref (a 11)), (1, .int y1), (2, .int y2)]) hx hb dX2_firstAstray_45 hl (k := 3) rfl rfl (by decide) rfl (fun ls hl => ?_)
          refine lv_goto (tgt := 2) hx hb dX2_firstAstray_48 (by decide) ?_
          exact hk2 y1 y2 (y3 + (1 : Int32)) _ _ _ h hz (lv_sub hl [1, 2, 3, 0] rfl)
        · replace h := ite_t c12 h
          refine lv_aload_n hx hb dX2_firstAstray_34 rfl (lv_at hl 0 rfl) ?_
          refine lv_iload_n hx hb dX2_firstAstray_35 rfl (lv_at hl 3 rfl) ?_
          obtain ⟨r13, e15, h⟩ := bd1_e h
          refine zcallVi (As := [.int y3]) (rest := []) CF hKK (KX2_aimOf (dC := dC) (dI := dI) (cI := cI) (cZ := cZ) (a := a) hok e15) (cwV 1 hts gX2_firstAstray_X2_aimOf rfl rfl rfl cdX2_aimOf ⟨Nat.le_of_ble_eq_true rfl, Nat.le_of_ble_eq_true rfl⟩) 11 2 rfl rfl hz rfl hl.1 rfl (Nat.le_of_ble_eq_true rfl) dX2_firstAstray_36 ⟨Nat.le_refl _, Nat.le_refl _⟩ (fun H locs hz => ?_)
          refine lv_iconst (v := (-1 : Int32)) hx hb dX2_firstAstray_39 (by decide) ?_
          refine lv_icmp_ne (tgt := 45) hx hb dX2_firstAstray_40 (by decide) (fun c16 => ?_) (fun c16 => ?_)
          · replace h := ite_f c16 h
            refine lv_iinc (v := (y3 + (1 : Int32))) (lv' := [(3, .int (y3 + (1 : Int32))), (0, .ref (a 11)), (1, .int y1), (2, .int y2)]) hx hb dX2_firstAstray_45 hl (k := 3) rfl rfl (by decide) rfl (fun ls hl => ?_)
            refine lv_goto (tgt := 2) hx hb dX2_firstAstray_48 (by decide) ?_
            exact hk2 y1 y2 (y3 + (1 : Int32)) _ _ _ h hz (lv_sub hl [1, 2, 3, 0] rfl)
          · replace h := ite_t c16 h
            refine lv_iload_n hx hb dX2_firstAstray_43 rfl (lv_at hl 3 rfl) ?_
            exact rt y3 σ 44 _ _ _ dX2_firstAstray_44 h hz
  have l2 : ∀  (n : Nat), ∀ (y1 : Int32) (y2 : Int32) (y3 : Int32) (H : Heap) (locs : List Loc) (ls : Array Slot), fX2_firstAstray_l2 σ  n y1 y2 y3 = some r → zz (dC, dI) 30 a (wdC cI cZ a σ) s.heap H locs → lv_has ls 4 [(0, .ref (a 11)), (1, .int y1), (2, .int y2), (3, .int y3)] → W p l e rmX2_firstAstray s m args below meth c H locs 0 0 Q (F0 m 2 ls []) := by
    intro  n
    induction n with
    | zero => intro y1 y2 y3 H locs ls h; exact nomatch h
    | succ n ih => exact s2  (fX2_firstAstray_l2 σ  n) ih
  unfold fX2_firstAstray at h
  refine lv_iconst (v := (0 : Int32)) hx hb dX2_firstAstray_0 (by decide) ?_
  refine lv_istore_n (lv' := [(3, .int (0 : Int32)), (0, .ref (a 11)), (1, .int x1), (2, .int x2)]) hx hb dX2_firstAstray_1 rfl hl (by decide) rfl (fun ls hl => ?_)
  exact l2  FU x1 x2 (0 : Int32) _ _ _ h hz (lv_sub hl [1, 2, 3, 0] rfl)
def fX2_lengthens (σ : St) (x1 : Int32) : Option (Int32 × St) :=
  (if x1 < 0 then (some ((0 : Int32), σ)) else ((if x1 < (24 : Int32) then ((ck (¬ (x1 < 0 ∨ 24 ≤ Int32.toNatClampNeg x1)) <| some ((1 : Int32), (si (sa σ 24 (Int32.toNatClampNeg x1) (1 : Int32)) 50 ((σ 50 0) + (1 : Int32)))))) else (some ((0 : Int32), σ)))))
abbrev rmX2_lengthens : Room := { frames := 0, cells := 0, slots := 0, locals := 0 }
set_option maxHeartbeats 4000000 in
set_option maxRecDepth 100000 in
theorem KX2_lengthens {l : Launch} {dC : Nat → ClassId} {dI : Nat → Nat → Nat} {cI cZ : ClassId} {a : Nat → Nat} {σ : St} {x1 : Int32} {r : Int32} {σ2 : St} (hok : okA 30 a) (h : fX2_lengthens σ x1 = some (r, σ2)) (sz : Nat) : Met l yX2_lengthens wsX2_lengthens rmX2_lengthens (Pz (dC, dI) cI cZ (wdC cI cZ a σ) sz [.ref (a 11), .int x1]) (Qzi (dC, dI) 30 a (wdC cI cZ a σ2) sz r) 0 0 (aN 30 a sz) := by
  refine Met.ofW (cc := cX2_lengthens) (maxL := 2) (ret := (some .boolean)) (by decide) rfl ?_
  intro p e s m args below meth c s₁ B hml hv
  obtain ⟨hav, hsz, hP, hKK⟩ := hv
  have hx := B.exec
  have hb := B.bytes
  have hr := B.returns
  have hts := atoms_spec (ws := wsX2_lengthens) B.pre
  have hown : s.vm.findClass RX2 = some m.cls := findClass_of_methodNamed B.named
  have hlocks := B.notSynchronized
  have CF : CallFix p m c cX2_lengthens 2 s args wsX2_lengthens RX2 := ⟨hx, hb, hml, hown, hts⟩
  have hz : zz (dC, dI) 30 a (wdC cI cZ a σ) s.heap s.heap [] := ⟨hP, va_S.rf⟩
  have hl := lv_entry [.ref (a 11), .int x1] (n := 2) (Nat.le_of_ble_eq_true rfl)
  have hen : entryFrame m args 2 = entryFrame m ([.ref (a 11), .int x1] : List Value).toArray 2 := by rw [hav]
  rw [hen, lg_entry_eq]
  generalize (lg_sl [.ref (a 11), .int x1] ++ List.replicate (2 - (lg_sl [.ref (a 11), .int x1]).length) Slot.unset).toArray = ls at hl ⊢
  have hl : lv_has ls 2 [(0, .ref (a 11)), (1, .int x1)] := hl
  have eR : (headSpec wsX2_lengthens rmX2_lengthens).room = rmX2_lengthens := rfl
  rw [eR]
  have rt : ∀ (v : Int32) (t : St) (pc : Nat) (H : Heap) (locs : List Loc) (ls : Array Slot), decode cX2_lengthens pc = .ok (.ireturn, 1) → some (v, t) = some (r, σ2) → zz (dC, dI) 30 a (wdC cI cZ a t) s.heap H locs → (v = 0 ∨ v = 1) → W p l e rmX2_lengthens s m args below meth c H locs 0 0 (MQ below (Qzi (dC, dI) 30 a (wdC cI cZ a σ2) sz r) args s 0 0 (aN 30 a sz)) (F0 m pc ls [.int v]) := by
    intro v t pc H locs ls hd h hz hv
    cases h
    exact zzret hsz hx hb hr hlocks hv hz hd
  generalize (MQ below (Qzi (dC, dI) 30 a (wdC cI cZ a σ2) sz r) args s 0 0 (aN 30 a sz)) = Q at rt ⊢
  unfold fX2_lengthens at h
  refine lv_iload_n hx hb dX2_lengthens_0 rfl (lv_at hl 1 rfl) ?_
  refine lv_if_lt (tgt := 13) hx hb dX2_lengthens_1 (by decide) (fun c1 => ?_) (fun c1 => ?_)
  · replace h := ite_t c1 h
    refine lv_iconst (v := (0 : Int32)) hx hb dX2_lengthens_13 (by decide) ?_
    exact rt (0 : Int32) σ 14 _ _ _ dX2_lengthens_14 h hz (Or.inl rfl)
  · replace h := ite_f c1 h
    refine lv_iload_n hx hb dX2_lengthens_4 rfl (lv_at hl 1 rfl) ?_
    refine lv_aload_n hx hb dX2_lengthens_5 rfl (lv_at hl 0 rfl) ?_
    refine va_get (v := .ref (a 24)) hx hb hts inX2_lengthens_X2 hown hKK.1 hz.1 11 rfl rfl 4 (by decide) (hts _ (List.mem_of_getElem? (i := 1) rfl)) (fun _ h9 => h9) rfl dX2_lengthens_6 ?_
    refine va_alen (v := (24 : Int32)) hx hb hKK.1 hz.1 24 1 rfl rfl rfl dX2_lengthens_9 ?_
    refine lv_icmp_lt (tgt := 15) hx hb dX2_lengthens_10 (by decide) (fun c2 => ?_) (fun c2 => ?_)
    · replace h := ite_t c2 h
      refine lv_aload_n hx hb dX2_lengthens_15 rfl (lv_at hl 0 rfl) ?_
      refine va_get (v := .ref (a 24)) hx hb hts inX2_lengthens_X2 hown hKK.1 hz.1 11 rfl rfl 4 (by decide) (hts _ (List.mem_of_getElem? (i := 1) rfl)) (fun _ h9 => h9) rfl dX2_lengthens_16 ?_
      refine lv_iload_n hx hb dX2_lengthens_19 rfl (lv_at hl 1 rfl) ?_
      refine lv_iconst (v := (1 : Int32)) hx hb dX2_lengthens_20 (by decide) ?_
      obtain ⟨c3, h⟩ := ck_e h
      refine zzast (f := σ 24) (w' := wdC cI cZ a (sa σ 24 (Int32.toNatClampNeg x1) (1 : Int32))) hx hb hKK hok wkC hz 24 rfl c3 (x' := (1 : Int32)) (by decide) setCa_24 dX2_lengthens_21 (fun H locs hz => ?_)
      refine lv_aload_n hx hb dX2_lengthens_22 rfl (lv_at hl 0 rfl) ?_
      refine lv_dup hx hb dX2_lengthens_23 rfl ?_
      refine va_get (v := .int (σ 50 0)) hx hb hts inX2_lengthens_X2 hown hKK.1 hz.1 11 rfl rfl 10 (by decide) (hts _ (List.mem_of_getElem? (i := 2) rfl)) (fun _ h9 => h9) rfl dX2_lengthens_24 ?_
      refine lv_iconst (v := (1 : Int32)) hx hb dX2_lengthens_27 (by decide) ?_
      refine lv_iadd hx hb dX2_lengthens_28 ?_
      refine zput (ty := .int) (w' := wdC cI cZ a (si (sa σ 24 (Int32.toNatClampNeg x1) (1 : Int32)) 50 ((σ 50 0) + (1 : Int32)))) hx hb hts inX2_lengthens_X2 tyX2 tyX2_ok nmX2 hown hKK hok wkC hz 11 rfl rfl 10 (by decide) (hts _ (List.mem_of_getElem? (i := 2) rfl)) (fun _ h9 => h9) rfl rfl rfl rfl (Nat.le_of_ble_eq_true rfl) setCi_50 dX2_lengthens_29 (fun H locs hz => ?_)
      refine lv_iconst (v := (1 : Int32)) hx hb dX2_lengthens_32 (by decide) ?_
      exact rt (1 : Int32) (si (sa σ 24 (Int32.toNatClampNeg x1) (1 : Int32)) 50 ((σ 50 0) + (1 : Int32))) 33 _ _ _ dX2_lengthens_33 h hz (Or.inr rfl)
    · replace h := ite_f c2 h
      refine lv_iconst (v := (0 : Int32)) hx hb dX2_lengthens_13 (by decide) ?_
      exact rt (0 : Int32) σ 14 _ _ _ dX2_lengthens_14 h hz (Or.inl rfl)
def fX4_endOf_i (σ : St) (x1 : Int32) : Option (Int32) :=
  (bd1 (fX4_isItem σ x1) fun r1 => (if r1 = 0 then (some (-1 : Int32)) else ((ck (¬ (x1 < 0 ∨ 24 ≤ Int32.toNatClampNeg x1)) <| (ck (¬ (x1 < 0 ∨ 24 ≤ Int32.toNatClampNeg x1)) <| some (((σ 17) (Int32.toNatClampNeg x1)) + ((4 : Int32) * ((σ 16) (Int32.toNatClampNeg x1)))))))))
abbrev rmX4_endOf_i : Room := { frames := 1, cells := 0, slots := 0, locals := 20 }
set_option maxHeartbeats 4000000 in
set_option maxRecDepth 100000 in
theorem KX4_endOf_i {l : Launch} {dC : Nat → ClassId} {dI : Nat → Nat → Nat} {cI cZ : ClassId} {a : Nat → Nat} {σ : St} {x1 : Int32} {r : Int32} (hok : okA 30 a) (h : fX4_endOf_i σ x1 = some r) (sz : Nat) : Met l yX4_endOf wsX4_endOf rmX4_endOf_i (Pz (dC, dI) cI cZ (wdC cI cZ a σ) sz [.ref (a 12), .int x1]) (Qzi (dC, dI) 30 a (wdC cI cZ a σ) sz r) 0 0 (aN 30 a sz) := by
  refine Met.ofW (cc := cX4_endOf) (maxL := 2) (ret := (some .int)) (by decide) rfl ?_
  intro p e s m args below meth c s₁ B hml hv
  obtain ⟨hav, hsz, hP, hKK⟩ := hv
  have hx := B.exec
  have hb := B.bytes
  have hr := B.returns
  have hts := atoms_spec (ws := wsX4_endOf) B.pre
  have hown : s.vm.findClass RX4 = some m.cls := findClass_of_methodNamed B.named
  have hlocks := B.notSynchronized
  have CF : CallFix p m c cX4_endOf 2 s args wsX4_endOf RX4 := ⟨hx, hb, hml, hown, hts⟩
  have hz : zz (dC, dI) 30 a (wdC cI cZ a σ) s.heap s.heap [] := ⟨hP, va_S.rf⟩
  have hl := lv_entry [.ref (a 12), .int x1] (n := 2) (Nat.le_of_ble_eq_true rfl)
  have hen : entryFrame m args 2 = entryFrame m ([.ref (a 12), .int x1] : List Value).toArray 2 := by rw [hav]
  rw [hen, lg_entry_eq]
  generalize (lg_sl [.ref (a 12), .int x1] ++ List.replicate (2 - (lg_sl [.ref (a 12), .int x1]).length) Slot.unset).toArray = ls at hl ⊢
  have hl : lv_has ls 2 [(0, .ref (a 12)), (1, .int x1)] := hl
  have eR : (headSpec wsX4_endOf rmX4_endOf_i).room = rmX4_endOf_i := rfl
  rw [eR]
  have rt : ∀ (v : Int32) (t : St) (pc : Nat) (H : Heap) (locs : List Loc) (ls : Array Slot), decode cX4_endOf pc = .ok (.ireturn, 1) → some v = some r → zz (dC, dI) 30 a (wdC cI cZ a σ) s.heap H locs → W p l e rmX4_endOf_i s m args below meth c H locs 0 0 (MQ below (Qzi (dC, dI) 30 a (wdC cI cZ a σ) sz r) args s 0 0 (aN 30 a sz)) (F0 m pc ls [.int v]) := by
    intro v t pc H locs ls hd h hz
    cases h
    exact ziret hsz hx hb hr hlocks hz hd
  generalize (MQ below (Qzi (dC, dI) 30 a (wdC cI cZ a σ) sz r) args s 0 0 (aN 30 a sz)) = Q at rt ⊢
  unfold fX4_endOf_i at h
  refine lv_iload_n hx hb dX4_endOf_0 rfl (lv_at hl 1 rfl) ?_
  obtain ⟨r1, e3, h⟩ := bd1_e h
  refine zcallSi (As := [.int x1]) (rest := []) CF hKK (KX4_isItem (dC := dC) (dI := dI) (cI := cI) (cZ := cZ) (a := a) hok e3) (va_cwS 1 hts gX4_endOf_X4_isItem rfl rfl rfl cdX4_isItem.2 ⟨Nat.le_of_ble_eq_true rfl, Nat.le_of_ble_eq_true rfl⟩) hz rfl hl.1 rfl (Nat.le_of_ble_eq_true rfl) dX4_endOf_1 ⟨Nat.le_refl _, Nat.le_refl _⟩ (fun H locs hz => ?_)
  refine lv_if_eq (tgt := 25) hx hb dX4_endOf_4 (by decide) (fun c4 => ?_) (fun c4 => ?_)
  · replace h := ite_t c4 h
    refine lv_iconst (v := (-1 : Int32)) hx hb dX4_endOf_25 (by decide) ?_
    exact rt (-1 : Int32) σ 26 _ _ _ dX4_endOf_26 h hz
  · replace h := ite_f c4 h
    refine lv_aload_n hx hb dX4_endOf_7 rfl (lv_at hl 0 rfl) ?_
    refine va_get (v := .ref (a 17)) hx hb hts inX4_endOf_X4 hown hKK.1 hz.1 12 rfl rfl 4 (by decide) (hts _ (List.mem_of_getElem? (i := 1) rfl)) (fun _ h9 => h9) rfl dX4_endOf_8 ?_
    refine lv_iload_n hx hb dX4_endOf_11 rfl (lv_at hl 1 rfl) ?_
    obtain ⟨c5, h⟩ := ck_e h
    refine va_iald (f := (σ 17)) hx hb hKK.1 hz.1 17 0 rfl rfl c5 dX4_endOf_12 ?_
    refine lv_iconst (v := (4 : Int32)) hx hb dX4_endOf_13 (by decide) ?_
    refine lv_aload_n hx hb dX4_endOf_14 rfl (lv_at hl 0 rfl) ?_
    refine va_get (v := .ref (a 16)) hx hb hts inX4_endOf_X4 hown hKK.1 hz.1 12 rfl rfl 3 (by decide) (hts _ (List.mem_of_getElem? (i := 2) rfl)) (fun _ h9 => h9) rfl dX4_endOf_15 ?_
    refine lv_iload_n hx hb dX4_endOf_18 rfl (lv_at hl 1 rfl) ?_
    obtain ⟨c6, h⟩ := ck_e h
    refine va_iald (f := (σ 16)) hx hb hKK.1 hz.1 16 0 rfl rfl c6 dX4_endOf_19 ?_
    refine lv_imul hx hb dX4_endOf_20 ?_
    refine lv_iadd hx hb dX4_endOf_21 ?_
    refine lv_goto (tgt := 26) hx hb dX4_endOf_22 (by decide) ?_
    exact rt (((σ 17) (Int32.toNatClampNeg x1)) + ((4 : Int32) * ((σ 16) (Int32.toNatClampNeg x1)))) σ 26 _ _ _ dX4_endOf_26 h hz
def fX4_endOf_c (σ : St) (x1 : Int32) : Option (Int32) :=
  (bd1 (fX4_isItem σ x1) fun r1 => (if r1 = 0 then (some (-1 : Int32)) else ((ck (¬ (x1 < 0 ∨ 24 ≤ Int32.toNatClampNeg x1)) <| (ck (¬ (x1 < 0 ∨ 24 ≤ Int32.toNatClampNeg x1)) <| some (((σ 23) (Int32.toNatClampNeg x1)) + ((4 : Int32) * ((σ 22) (Int32.toNatClampNeg x1)))))))))
abbrev rmX4_endOf_c : Room := { frames := 1, cells := 0, slots := 0, locals := 20 }
set_option maxHeartbeats 4000000 in
set_option maxRecDepth 100000 in
theorem KX4_endOf_c {l : Launch} {dC : Nat → ClassId} {dI : Nat → Nat → Nat} {cI cZ : ClassId} {a : Nat → Nat} {σ : St} {x1 : Int32} {r : Int32} (hok : okA 30 a) (h : fX4_endOf_c σ x1 = some r) (sz : Nat) : Met l yX4_endOf wsX4_endOf rmX4_endOf_c (Pz (dC, dI) cI cZ (wdC cI cZ a σ) sz [.ref (a 18), .int x1]) (Qzi (dC, dI) 30 a (wdC cI cZ a σ) sz r) 0 0 (aN 30 a sz) := by
  refine Met.ofW (cc := cX4_endOf) (maxL := 2) (ret := (some .int)) (by decide) rfl ?_
  intro p e s m args below meth c s₁ B hml hv
  obtain ⟨hav, hsz, hP, hKK⟩ := hv
  have hx := B.exec
  have hb := B.bytes
  have hr := B.returns
  have hts := atoms_spec (ws := wsX4_endOf) B.pre
  have hown : s.vm.findClass RX4 = some m.cls := findClass_of_methodNamed B.named
  have hlocks := B.notSynchronized
  have CF : CallFix p m c cX4_endOf 2 s args wsX4_endOf RX4 := ⟨hx, hb, hml, hown, hts⟩
  have hz : zz (dC, dI) 30 a (wdC cI cZ a σ) s.heap s.heap [] := ⟨hP, va_S.rf⟩
  have hl := lv_entry [.ref (a 18), .int x1] (n := 2) (Nat.le_of_ble_eq_true rfl)
  have hen : entryFrame m args 2 = entryFrame m ([.ref (a 18), .int x1] : List Value).toArray 2 := by rw [hav]
  rw [hen, lg_entry_eq]
  generalize (lg_sl [.ref (a 18), .int x1] ++ List.replicate (2 - (lg_sl [.ref (a 18), .int x1]).length) Slot.unset).toArray = ls at hl ⊢
  have hl : lv_has ls 2 [(0, .ref (a 18)), (1, .int x1)] := hl
  have eR : (headSpec wsX4_endOf rmX4_endOf_c).room = rmX4_endOf_c := rfl
  rw [eR]
  have rt : ∀ (v : Int32) (t : St) (pc : Nat) (H : Heap) (locs : List Loc) (ls : Array Slot), decode cX4_endOf pc = .ok (.ireturn, 1) → some v = some r → zz (dC, dI) 30 a (wdC cI cZ a σ) s.heap H locs → W p l e rmX4_endOf_c s m args below meth c H locs 0 0 (MQ below (Qzi (dC, dI) 30 a (wdC cI cZ a σ) sz r) args s 0 0 (aN 30 a sz)) (F0 m pc ls [.int v]) := by
    intro v t pc H locs ls hd h hz
    cases h
    exact ziret hsz hx hb hr hlocks hz hd
  generalize (MQ below (Qzi (dC, dI) 30 a (wdC cI cZ a σ) sz r) args s 0 0 (aN 30 a sz)) = Q at rt ⊢
  unfold fX4_endOf_c at h
  refine lv_iload_n hx hb dX4_endOf_0 rfl (lv_at hl 1 rfl) ?_
  obtain ⟨r1, e3, h⟩ := bd1_e h
  refine zcallSi (As := [.int x1]) (rest := []) CF hKK (KX4_isItem (dC := dC) (dI := dI) (cI := cI) (cZ := cZ) (a := a) hok e3) (va_cwS 1 hts gX4_endOf_X4_isItem rfl rfl rfl cdX4_isItem.2 ⟨Nat.le_of_ble_eq_true rfl, Nat.le_of_ble_eq_true rfl⟩) hz rfl hl.1 rfl (Nat.le_of_ble_eq_true rfl) dX4_endOf_1 ⟨Nat.le_refl _, Nat.le_refl _⟩ (fun H locs hz => ?_)
  refine lv_if_eq (tgt := 25) hx hb dX4_endOf_4 (by decide) (fun c4 => ?_) (fun c4 => ?_)
  · replace h := ite_t c4 h
    refine lv_iconst (v := (-1 : Int32)) hx hb dX4_endOf_25 (by decide) ?_
    exact rt (-1 : Int32) σ 26 _ _ _ dX4_endOf_26 h hz
  · replace h := ite_f c4 h
    refine lv_aload_n hx hb dX4_endOf_7 rfl (lv_at hl 0 rfl) ?_
    refine va_get (v := .ref (a 23)) hx hb hts inX4_endOf_X4 hown hKK.1 hz.1 18 rfl rfl 4 (by decide) (hts _ (List.mem_of_getElem? (i := 1) rfl)) (fun _ h9 => h9) rfl dX4_endOf_8 ?_
    refine lv_iload_n hx hb dX4_endOf_11 rfl (lv_at hl 1 rfl) ?_
    obtain ⟨c5, h⟩ := ck_e h
    refine va_iald (f := (σ 23)) hx hb hKK.1 hz.1 23 0 rfl rfl c5 dX4_endOf_12 ?_
    refine lv_iconst (v := (4 : Int32)) hx hb dX4_endOf_13 (by decide) ?_
    refine lv_aload_n hx hb dX4_endOf_14 rfl (lv_at hl 0 rfl) ?_
    refine va_get (v := .ref (a 22)) hx hb hts inX4_endOf_X4 hown hKK.1 hz.1 18 rfl rfl 3 (by decide) (hts _ (List.mem_of_getElem? (i := 2) rfl)) (fun _ h9 => h9) rfl dX4_endOf_15 ?_
    refine lv_iload_n hx hb dX4_endOf_18 rfl (lv_at hl 1 rfl) ?_
    obtain ⟨c6, h⟩ := ck_e h
    refine va_iald (f := (σ 22)) hx hb hKK.1 hz.1 22 0 rfl rfl c6 dX4_endOf_19 ?_
    refine lv_imul hx hb dX4_endOf_20 ?_
    refine lv_iadd hx hb dX4_endOf_21 ?_
    refine lv_goto (tgt := 26) hx hb dX4_endOf_22 (by decide) ?_
    exact rt (((σ 23) (Int32.toNatClampNeg x1)) + ((4 : Int32) * ((σ 22) (Int32.toNatClampNeg x1)))) σ 26 _ _ _ dX4_endOf_26 h hz
def fX2_nextConstantIn (σ : St) (x1 : Int32) : Option (Int32) :=
  (bd1 (fX4_endOf_c σ x1) fun r1 => (bd1 (fX5_fillTo σ (4 : Int32) r1) fun r4 => some (r1 + r4)))
abbrev rmX2_nextConstantIn : Room := { frames := 2, cells := 0, slots := 0, locals := 41 }
set_option maxHeartbeats 4000000 in
set_option maxRecDepth 100000 in
theorem KX2_nextConstantIn {l : Launch} {dC : Nat → ClassId} {dI : Nat → Nat → Nat} {cI cZ : ClassId} {a : Nat → Nat} {σ : St} {x1 : Int32} {r : Int32} (hok : okA 30 a) (h : fX2_nextConstantIn σ x1 = some r) (sz : Nat) : Met l yX2_nextConstantIn wsX2_nextConstantIn rmX2_nextConstantIn (Pz (dC, dI) cI cZ (wdC cI cZ a σ) sz [.ref (a 11), .int x1]) (Qzi (dC, dI) 30 a (wdC cI cZ a σ) sz r) 0 0 (aN 30 a sz) := by
  refine Met.ofW (cc := cX2_nextConstantIn) (maxL := 3) (ret := (some .int)) (by decide) rfl ?_
  intro p e s m args below meth c s₁ B hml hv
  obtain ⟨hav, hsz, hP, hKK⟩ := hv
  have hx := B.exec
  have hb := B.bytes
  have hr := B.returns
  have hts := atoms_spec (ws := wsX2_nextConstantIn) B.pre
  have hown : s.vm.findClass RX2 = some m.cls := findClass_of_methodNamed B.named
  have hlocks := B.notSynchronized
  have CF : CallFix p m c cX2_nextConstantIn 3 s args wsX2_nextConstantIn RX2 := ⟨hx, hb, hml, hown, hts⟩
  have hz : zz (dC, dI) 30 a (wdC cI cZ a σ) s.heap s.heap [] := ⟨hP, va_S.rf⟩
  have hl := lv_entry [.ref (a 11), .int x1] (n := 3) (Nat.le_of_ble_eq_true rfl)
  have hen : entryFrame m args 3 = entryFrame m ([.ref (a 11), .int x1] : List Value).toArray 3 := by rw [hav]
  rw [hen, lg_entry_eq]
  generalize (lg_sl [.ref (a 11), .int x1] ++ List.replicate (3 - (lg_sl [.ref (a 11), .int x1]).length) Slot.unset).toArray = ls at hl ⊢
  have hl : lv_has ls 3 [(0, .ref (a 11)), (1, .int x1)] := hl
  have eR : (headSpec wsX2_nextConstantIn rmX2_nextConstantIn).room = rmX2_nextConstantIn := rfl
  rw [eR]
  have rt : ∀ (v : Int32) (t : St) (pc : Nat) (H : Heap) (locs : List Loc) (ls : Array Slot), decode cX2_nextConstantIn pc = .ok (.ireturn, 1) → some v = some r → zz (dC, dI) 30 a (wdC cI cZ a σ) s.heap H locs → W p l e rmX2_nextConstantIn s m args below meth c H locs 0 0 (MQ below (Qzi (dC, dI) 30 a (wdC cI cZ a σ) sz r) args s 0 0 (aN 30 a sz)) (F0 m pc ls [.int v]) := by
    intro v t pc H locs ls hd h hz
    cases h
    exact ziret hsz hx hb hr hlocks hz hd
  generalize (MQ below (Qzi (dC, dI) 30 a (wdC cI cZ a σ) sz r) args s 0 0 (aN 30 a sz)) = Q at rt ⊢
  unfold fX2_nextConstantIn at h
  refine lv_aload_n hx hb dX2_nextConstantIn_0 rfl (lv_at hl 0 rfl) ?_
  refine va_get (v := .ref (a 18)) hx hb hts inX2_nextConstantIn_X2 hown hKK.1 hz.1 11 rfl rfl 3 (by decide) (hts _ (List.mem_of_getElem? (i := 1) rfl)) (fun _ h9 => h9) rfl dX2_nextConstantIn_1 ?_
  refine lv_iload_n hx hb dX2_nextConstantIn_4 rfl (lv_at hl 1 rfl) ?_
  obtain ⟨r1, e3, h⟩ := bd1_e h
  refine zcallVi (As := [.int x1]) (rest := []) CF hKK (KX4_endOf_c (dC := dC) (dI := dI) (cI := cI) (cZ := cZ) (a := a) hok e3) (cwV 1 hts gX2_nextConstantIn_X4_endOf rfl rfl rfl cdX4_endOf ⟨Nat.le_of_ble_eq_true rfl, Nat.le_of_ble_eq_true rfl⟩) 18 4 rfl rfl hz rfl hl.1 rfl (Nat.le_of_ble_eq_true rfl) dX2_nextConstantIn_5 ⟨Nat.le_refl _, Nat.le_refl _⟩ (fun H locs hz => ?_)
  refine lv_istore_n (lv' := [(2, .int r1), (0, .ref (a 11)), (1, .int x1)]) hx hb dX2_nextConstantIn_8 rfl hl (by decide) rfl (fun ls hl => ?_)
  refine lv_iload_n hx hb dX2_nextConstantIn_9 rfl (lv_at hl 0 rfl) ?_
  refine lv_iconst (v := (4 : Int32)) hx hb dX2_nextConstantIn_10 (by decide) ?_
  refine lv_iload_n hx hb dX2_nextConstantIn_11 rfl (lv_at hl 0 rfl) ?_
  obtain ⟨r4, e6, h⟩ := bd1_e h
  refine zcallSNi (As := [.int (4 : Int32), .int r1]) (rest := [.int r1]) CF hKK (KX5_fillTo (dC := dC) (dI := dI) (cI := cI) (cZ := cZ) (a := a) hok e6) ⟨va_cnB 2 hts gX2_nextConstantIn_X5_fillTo_n114 rfl rfl rfl hKK.2.2.2.2.2.2.2.2.2.2.2.2.2.2.1 (hts _ (List.mem_of_getElem? (i := 13) rfl)) cdX5_fillTo.2 ⟨Nat.le_of_ble_eq_true rfl, Nat.le_of_ble_eq_true rfl⟩, hts _ (List.mem_of_getElem? (i := 12) rfl), trivial⟩ hz rfl hl.1 rfl (Nat.le_of_ble_eq_true rfl) dX2_nextConstantIn_12 ⟨Nat.le_refl _, Nat.le_refl _⟩ (fun H locs hz => ?_)
  refine lv_iadd hx hb dX2_nextConstantIn_15 ?_
  exact rt (r1 + r4) σ 16 _ _ _ dX2_nextConstantIn_16 h hz
def fX4_add_i (σ : St) (x1 : Int32) (x2 : Int32) : Option (Int32 × St) :=
  (if (σ 56 0) < 0 then (some ((0 : Int32), σ)) else ((if (12 : Int32) ≤ (σ 56 0) then (some ((0 : Int32), σ)) else ((bd1 (fX4_isItem σ x2) fun r3 => (if r3 = 0 then (some ((0 : Int32), σ)) else ((ck (¬ ((σ 56 0) < 0 ∨ 12 ≤ Int32.toNatClampNeg (σ 56 0))) <| (ck (¬ ((σ 56 0) < 0 ∨ 12 ≤ Int32.toNatClampNeg (σ 56 0))) <| (ck (¬ (x2 < 0 ∨ 24 ≤ Int32.toNatClampNeg x2)) <| (ck (¬ ((σ 56 0) < 0 ∨ 12 ≤ Int32.toNatClampNeg (σ 56 0))) <| (ck (¬ (x2 < 0 ∨ 24 ≤ Int32.toNatClampNeg x2)) <| (ck (¬ (x2 < 0 ∨ 24 ≤ Int32.toNatClampNeg x2)) <| some ((1 : Int32), (si (sa (sa (sa (sa σ 13 (Int32.toNatClampNeg (σ 56 0)) x1) 14 (Int32.toNatClampNeg (σ 56 0)) x2) 15 (Int32.toNatClampNeg (σ 56 0)) ((σ 16) (Int32.toNatClampNeg x2))) 16 (Int32.toNatClampNeg x2) (((σ 16) (Int32.toNatClampNeg x2)) + (1 : Int32))) 56 ((σ 56 0) + (1 : Int32)))))))))))))))))
abbrev rmX4_add_i : Room := { frames := 1, cells := 0, slots := 0, locals := 20 }
set_option maxHeartbeats 4000000 in
set_option maxRecDepth 100000 in
theorem KX4_add_i {l : Launch} {dC : Nat → ClassId} {dI : Nat → Nat → Nat} {cI cZ : ClassId} {a : Nat → Nat} {σ : St} {x1 : Int32} {x2 : Int32} {r : Int32} {σ2 : St} (hok : okA 30 a) (h : fX4_add_i σ x1 x2 = some (r, σ2)) (sz : Nat) : Met l yX4_add wsX4_add rmX4_add_i (Pz (dC, dI) cI cZ (wdC cI cZ a σ) sz [.ref (a 12), .int x1, .int x2]) (Qzi (dC, dI) 30 a (wdC cI cZ a σ2) sz r) 0 0 (aN 30 a sz) := by
  refine Met.ofW (cc := cX4_add) (maxL := 3) (ret := (some .boolean)) (by decide) rfl ?_
  intro p e s m args below meth c s₁ B hml hv
  obtain ⟨hav, hsz, hP, hKK⟩ := hv
  have hx := B.exec
  have hb := B.bytes
  have hr := B.returns
  have hts := atoms_spec (ws := wsX4_add) B.pre
  have hown : s.vm.findClass RX4 = some m.cls := findClass_of_methodNamed B.named
  have hlocks := B.notSynchronized
  have CF : CallFix p m c cX4_add 3 s args wsX4_add RX4 := ⟨hx, hb, hml, hown, hts⟩
  have hz : zz (dC, dI) 30 a (wdC cI cZ a σ) s.heap s.heap [] := ⟨hP, va_S.rf⟩
  have hl := lv_entry [.ref (a 12), .int x1, .int x2] (n := 3) (Nat.le_of_ble_eq_true rfl)
  have hen : entryFrame m args 3 = entryFrame m ([.ref (a 12), .int x1, .int x2] : List Value).toArray 3 := by rw [hav]
  rw [hen, lg_entry_eq]
  generalize (lg_sl [.ref (a 12), .int x1, .int x2] ++ List.replicate (3 - (lg_sl [.ref (a 12), .int x1, .int x2]).length) Slot.unset).toArray = ls at hl ⊢
  have hl : lv_has ls 3 [(0, .ref (a 12)), (1, .int x1), (2, .int x2)] := hl
  have eR : (headSpec wsX4_add rmX4_add_i).room = rmX4_add_i := rfl
  rw [eR]
  have rt : ∀ (v : Int32) (t : St) (pc : Nat) (H : Heap) (locs : List Loc) (ls : Array Slot), decode cX4_add pc = .ok (.ireturn, 1) → some (v, t) = some (r, σ2) → zz (dC, dI) 30 a (wdC cI cZ a t) s.heap H locs → (v = 0 ∨ v = 1) → W p l e rmX4_add_i s m args below meth c H locs 0 0 (MQ below (Qzi (dC, dI) 30 a (wdC cI cZ a σ2) sz r) args s 0 0 (aN 30 a sz)) (F0 m pc ls [.int v]) := by
    intro v t pc H locs ls hd h hz hv
    cases h
    exact zzret hsz hx hb hr hlocks hv hz hd
  generalize (MQ below (Qzi (dC, dI) 30 a (wdC cI cZ a σ2) sz r) args s 0 0 (aN 30 a sz)) = Q at rt ⊢
  unfold fX4_add_i at h
  refine lv_aload_n hx hb dX4_add_0 rfl (lv_at hl 0 rfl) ?_
  refine va_get (v := .int (σ 56 0)) hx hb hts inX4_add_X4 hown hKK.1 hz.1 12 rfl rfl 5 (by decide) (hts _ (List.mem_of_getElem? (i := 1) rfl)) (fun _ h9 => h9) rfl dX4_add_1 ?_
  refine lv_if_lt (tgt := 26) hx hb dX4_add_4 (by decide) (fun c1 => ?_) (fun c1 => ?_)
  · replace h := ite_t c1 h
    refine lv_iconst (v := (0 : Int32)) hx hb dX4_add_26 (by decide) ?_
    exact rt (0 : Int32) σ 27 _ _ _ dX4_add_27 h hz (Or.inl rfl)
  · replace h := ite_f c1 h
    refine lv_aload_n hx hb dX4_add_7 rfl (lv_at hl 0 rfl) ?_
    refine va_get (v := .int (σ 56 0)) hx hb hts inX4_add_X4 hown hKK.1 hz.1 12 rfl rfl 5 (by decide) (hts _ (List.mem_of_getElem? (i := 1) rfl)) (fun _ h9 => h9) rfl dX4_add_8 ?_
    refine lv_aload_n hx hb dX4_add_11 rfl (lv_at hl 0 rfl) ?_
    refine va_get (v := .ref (a 13)) hx hb hts inX4_add_X4 hown hKK.1 hz.1 12 rfl rfl 0 (by decide) (hts _ (List.mem_of_getElem? (i := 2) rfl)) (fun _ h9 => h9) rfl dX4_add_12 ?_
    refine va_alen (v := (12 : Int32)) hx hb hKK.1 hz.1 13 0 rfl rfl rfl dX4_add_15 ?_
    refine lv_icmp_ge (tgt := 26) hx hb dX4_add_16 (by decide) (fun c2 => ?_) (fun c2 => ?_)
    · replace h := ite_t c2 h
      refine lv_iconst (v := (0 : Int32)) hx hb dX4_add_26 (by decide) ?_
      exact rt (0 : Int32) σ 27 _ _ _ dX4_add_27 h hz (Or.inl rfl)
    · replace h := ite_f c2 h
      refine lv_iload_n hx hb dX4_add_19 rfl (lv_at hl 2 rfl) ?_
      obtain ⟨r3, e5, h⟩ := bd1_e h
      refine zcallSi (As := [.int x2]) (rest := []) CF hKK (KX4_isItem (dC := dC) (dI := dI) (cI := cI) (cZ := cZ) (a := a) hok e5) (va_cwS 1 hts gX4_add_X4_isItem rfl rfl rfl cdX4_isItem.2 ⟨Nat.le_of_ble_eq_true rfl, Nat.le_of_ble_eq_true rfl⟩) hz rfl hl.1 rfl (Nat.le_of_ble_eq_true rfl) dX4_add_20 ⟨Nat.le_refl _, Nat.le_refl _⟩ (fun H locs hz => ?_)
      refine lv_if_ne (tgt := 28) hx hb dX4_add_23 (by decide) (fun c6 => ?_) (fun c6 => ?_)
      · replace h := ite_f c6 h
        refine lv_aload_n hx hb dX4_add_28 rfl (lv_at hl 0 rfl) ?_
        refine va_get (v := .ref (a 13)) hx hb hts inX4_add_X4 hown hKK.1 hz.1 12 rfl rfl 0 (by decide) (hts _ (List.mem_of_getElem? (i := 2) rfl)) (fun _ h9 => h9) rfl dX4_add_29 ?_
        refine lv_aload_n hx hb dX4_add_32 rfl (lv_at hl 0 rfl) ?_
        refine va_get (v := .int (σ 56 0)) hx hb hts inX4_add_X4 hown hKK.1 hz.1 12 rfl rfl 5 (by decide) (hts _ (List.mem_of_getElem? (i := 1) rfl)) (fun _ h9 => h9) rfl dX4_add_33 ?_
        refine lv_iload_n hx hb dX4_add_36 rfl (lv_at hl 1 rfl) ?_
        obtain ⟨c7, h⟩ := ck_e h
        refine ziast (f := σ 13) (w' := wdC cI cZ a (sa σ 13 (Int32.toNatClampNeg (σ 56 0)) x1)) hx hb hKK hok wkC hz 13 rfl c7 setCa_13 dX4_add_37 (fun H locs hz => ?_)
        refine lv_aload_n hx hb dX4_add_38 rfl (lv_at hl 0 rfl) ?_
        refine va_get (v := .ref (a 14)) hx hb hts inX4_add_X4 hown hKK.1 hz.1 12 rfl rfl 1 (by decide) (hts _ (List.mem_of_getElem? (i := 3) rfl)) (fun _ h9 => h9) rfl dX4_add_39 ?_
        refine lv_aload_n hx hb dX4_add_42 rfl (lv_at hl 0 rfl) ?_
        refine va_get (v := .int (σ 56 0)) hx hb hts inX4_add_X4 hown hKK.1 hz.1 12 rfl rfl 5 (by decide) (hts _ (List.mem_of_getElem? (i := 1) rfl)) (fun _ h9 => h9) rfl dX4_add_43 ?_
        refine lv_iload_n hx hb dX4_add_46 rfl (lv_at hl 2 rfl) ?_
        obtain ⟨c8, h⟩ := ck_e h
        refine ziast (f := (sa σ 13 (Int32.toNatClampNeg (σ 56 0)) x1) 14) (w' := wdC cI cZ a (sa (sa σ 13 (Int32.toNatClampNeg (σ 56 0)) x1) 14 (Int32.toNatClampNeg (σ 56 0)) x2)) hx hb hKK hok wkC hz 14 rfl c8 setCa_14 dX4_add_47 (fun H locs hz => ?_)
        refine lv_aload_n hx hb dX4_add_48 rfl (lv_at hl 0 rfl) ?_
        refine va_get (v := .ref (a 15)) hx hb hts inX4_add_X4 hown hKK.1 hz.1 12 rfl rfl 2 (by decide) (hts _ (List.mem_of_getElem? (i := 4) rfl)) (fun _ h9 => h9) rfl dX4_add_49 ?_
        refine lv_aload_n hx hb dX4_add_52 rfl (lv_at hl 0 rfl) ?_
        refine va_get (v := .int (σ 56 0)) hx hb hts inX4_add_X4 hown hKK.1 hz.1 12 rfl rfl 5 (by decide) (hts _ (List.mem_of_getElem? (i := 1) rfl)) (fun _ h9 => h9) rfl dX4_add_53 ?_
        refine lv_aload_n hx hb dX4_add_56 rfl (lv_at hl 0 rfl) ?_
        refine va_get (v := .ref (a 16)) hx hb hts inX4_add_X4 hown hKK.1 hz.1 12 rfl rfl 3 (by decide) (hts _ (List.mem_of_getElem? (i := 5) rfl)) (fun _ h9 => h9) rfl dX4_add_57 ?_
        refine lv_iload_n hx hb dX4_add_60 rfl (lv_at hl 2 rfl) ?_
        obtain ⟨c9, h⟩ := ck_e h
        refine va_iald (f := (σ 16)) hx hb hKK.1 hz.1 16 0 rfl rfl c9 dX4_add_61 ?_
        obtain ⟨c10, h⟩ := ck_e h
        refine ziast (f := (sa (sa σ 13 (Int32.toNatClampNeg (σ 56 0)) x1) 14 (Int32.toNatClampNeg (σ 56 0)) x2) 15) (w' := wdC cI cZ a (sa (sa (sa σ 13 (Int32.toNatClampNeg (σ 56 0)) x1) 14 (Int32.toNatClampNeg (σ 56 0)) x2) 15 (Int32.toNatClampNeg (σ 56 0)) ((σ 16) (Int32.toNatClampNeg x2)))) hx hb hKK hok wkC hz 15 rfl c10 setCa_15 dX4_add_62 (fun H locs hz => ?_)
        refine lv_aload_n hx hb dX4_add_63 rfl (lv_at hl 0 rfl) ?_
        refine va_get (v := .ref (a 16)) hx hb hts inX4_add_X4 hown hKK.1 hz.1 12 rfl rfl 3 (by decide) (hts _ (List.mem_of_getElem? (i := 5) rfl)) (fun _ h9 => h9) rfl dX4_add_64 ?_
        refine lv_iload_n hx hb dX4_add_67 rfl (lv_at hl 2 rfl) ?_
        refine lv_dup2_11 hx hb dX4_add_68 rfl rfl ?_
        obtain ⟨c11, h⟩ := ck_e h
        refine va_iald (f := (σ 16)) hx hb hKK.1 hz.1 16 0 rfl rfl c11 dX4_add_69 ?_
        refine lv_iconst (v := (1 : Int32)) hx hb dX4_add_70 (by decide) ?_
        refine lv_iadd hx hb dX4_add_71 ?_
        obtain ⟨c12, h⟩ := ck_e h
        refine ziast (f := (sa (sa (sa σ 13 (Int32.toNatClampNeg (σ 56 0)) x1) 14 (Int32.toNatClampNeg (σ 56 0)) x2) 15 (Int32.toNatClampNeg (σ 56 0)) ((σ 16) (Int32.toNatClampNeg x2))) 16) (w' := wdC cI cZ a (sa (sa (sa (sa σ 13 (Int32.toNatClampNeg (σ 56 0)) x1) 14 (Int32.toNatClampNeg (σ 56 0)) x2) 15 (Int32.toNatClampNeg (σ 56 0)) ((σ 16) (Int32.toNatClampNeg x2))) 16 (Int32.toNatClampNeg x2) (((σ 16) (Int32.toNatClampNeg x2)) + (1 : Int32)))) hx hb hKK hok wkC hz 16 rfl c12 setCa_16 dX4_add_72 (fun H locs hz => ?_)
        refine lv_aload_n hx hb dX4_add_73 rfl (lv_at hl 0 rfl) ?_
        refine lv_dup hx hb dX4_add_74 rfl ?_
        refine va_get (v := .int (σ 56 0)) hx hb hts inX4_add_X4 hown hKK.1 hz.1 12 rfl rfl 5 (by decide) (hts _ (List.mem_of_getElem? (i := 1) rfl)) (fun _ h9 => h9) rfl dX4_add_75 ?_
        refine lv_iconst (v := (1 : Int32)) hx hb dX4_add_78 (by decide) ?_
        refine lv_iadd hx hb dX4_add_79 ?_
        refine zput (ty := .int) (w' := wdC cI cZ a (si (sa (sa (sa (sa σ 13 (Int32.toNatClampNeg (σ 56 0)) x1) 14 (Int32.toNatClampNeg (σ 56 0)) x2) 15 (Int32.toNatClampNeg (σ 56 0)) ((σ 16) (Int32.toNatClampNeg x2))) 16 (Int32.toNatClampNeg x2) (((σ 16) (Int32.toNatClampNeg x2)) + (1 : Int32))) 56 ((σ 56 0) + (1 : Int32)))) hx hb hts inX4_add_X4 tyX4 tyX4_ok nmX4 hown hKK hok wkC hz 12 rfl rfl 5 (by decide) (hts _ (List.mem_of_getElem? (i := 1) rfl)) (fun _ h9 => h9) rfl rfl rfl rfl (Nat.le_of_ble_eq_true rfl) setCi_56 dX4_add_80 (fun H locs hz => ?_)
        refine lv_iconst (v := (1 : Int32)) hx hb dX4_add_83 (by decide) ?_
        exact rt (1 : Int32) (si (sa (sa (sa (sa σ 13 (Int32.toNatClampNeg (σ 56 0)) x1) 14 (Int32.toNatClampNeg (σ 56 0)) x2) 15 (Int32.toNatClampNeg (σ 56 0)) ((σ 16) (Int32.toNatClampNeg x2))) 16 (Int32.toNatClampNeg x2) (((σ 16) (Int32.toNatClampNeg x2)) + (1 : Int32))) 56 ((σ 56 0) + (1 : Int32))) 84 _ _ _ dX4_add_84 h hz (Or.inr rfl)
      · replace h := ite_t c6 h
        refine lv_iconst (v := (0 : Int32)) hx hb dX4_add_26 (by decide) ?_
        exact rt (0 : Int32) σ 27 _ _ _ dX4_add_27 h hz (Or.inl rfl)
def fX4_add_c (σ : St) (x1 : Int32) (x2 : Int32) : Option (Int32 × St) :=
  (if (σ 57 0) < 0 then (some ((0 : Int32), σ)) else ((if (16 : Int32) ≤ (σ 57 0) then (some ((0 : Int32), σ)) else ((bd1 (fX4_isItem σ x2) fun r3 => (if r3 = 0 then (some ((0 : Int32), σ)) else ((ck (¬ ((σ 57 0) < 0 ∨ 16 ≤ Int32.toNatClampNeg (σ 57 0))) <| (ck (¬ ((σ 57 0) < 0 ∨ 16 ≤ Int32.toNatClampNeg (σ 57 0))) <| (ck (¬ (x2 < 0 ∨ 24 ≤ Int32.toNatClampNeg x2)) <| (ck (¬ ((σ 57 0) < 0 ∨ 16 ≤ Int32.toNatClampNeg (σ 57 0))) <| (ck (¬ (x2 < 0 ∨ 24 ≤ Int32.toNatClampNeg x2)) <| (ck (¬ (x2 < 0 ∨ 24 ≤ Int32.toNatClampNeg x2)) <| some ((1 : Int32), (si (sa (sa (sa (sa σ 19 (Int32.toNatClampNeg (σ 57 0)) x1) 20 (Int32.toNatClampNeg (σ 57 0)) x2) 21 (Int32.toNatClampNeg (σ 57 0)) ((σ 22) (Int32.toNatClampNeg x2))) 22 (Int32.toNatClampNeg x2) (((σ 22) (Int32.toNatClampNeg x2)) + (1 : Int32))) 57 ((σ 57 0) + (1 : Int32)))))))))))))))))
abbrev rmX4_add_c : Room := { frames := 1, cells := 0, slots := 0, locals := 20 }
set_option maxHeartbeats 4000000 in
set_option maxRecDepth 100000 in
theorem KX4_add_c {l : Launch} {dC : Nat → ClassId} {dI : Nat → Nat → Nat} {cI cZ : ClassId} {a : Nat → Nat} {σ : St} {x1 : Int32} {x2 : Int32} {r : Int32} {σ2 : St} (hok : okA 30 a) (h : fX4_add_c σ x1 x2 = some (r, σ2)) (sz : Nat) : Met l yX4_add wsX4_add rmX4_add_c (Pz (dC, dI) cI cZ (wdC cI cZ a σ) sz [.ref (a 18), .int x1, .int x2]) (Qzi (dC, dI) 30 a (wdC cI cZ a σ2) sz r) 0 0 (aN 30 a sz) := by
  refine Met.ofW (cc := cX4_add) (maxL := 3) (ret := (some .boolean)) (by decide) rfl ?_
  intro p e s m args below meth c s₁ B hml hv
  obtain ⟨hav, hsz, hP, hKK⟩ := hv
  have hx := B.exec
  have hb := B.bytes
  have hr := B.returns
  have hts := atoms_spec (ws := wsX4_add) B.pre
  have hown : s.vm.findClass RX4 = some m.cls := findClass_of_methodNamed B.named
  have hlocks := B.notSynchronized
  have CF : CallFix p m c cX4_add 3 s args wsX4_add RX4 := ⟨hx, hb, hml, hown, hts⟩
  have hz : zz (dC, dI) 30 a (wdC cI cZ a σ) s.heap s.heap [] := ⟨hP, va_S.rf⟩
  have hl := lv_entry [.ref (a 18), .int x1, .int x2] (n := 3) (Nat.le_of_ble_eq_true rfl)
  have hen : entryFrame m args 3 = entryFrame m ([.ref (a 18), .int x1, .int x2] : List Value).toArray 3 := by rw [hav]
  rw [hen, lg_entry_eq]
  generalize (lg_sl [.ref (a 18), .int x1, .int x2] ++ List.replicate (3 - (lg_sl [.ref (a 18), .int x1, .int x2]).length) Slot.unset).toArray = ls at hl ⊢
  have hl : lv_has ls 3 [(0, .ref (a 18)), (1, .int x1), (2, .int x2)] := hl
  have eR : (headSpec wsX4_add rmX4_add_c).room = rmX4_add_c := rfl
  rw [eR]
  have rt : ∀ (v : Int32) (t : St) (pc : Nat) (H : Heap) (locs : List Loc) (ls : Array Slot), decode cX4_add pc = .ok (.ireturn, 1) → some (v, t) = some (r, σ2) → zz (dC, dI) 30 a (wdC cI cZ a t) s.heap H locs → (v = 0 ∨ v = 1) → W p l e rmX4_add_c s m args below meth c H locs 0 0 (MQ below (Qzi (dC, dI) 30 a (wdC cI cZ a σ2) sz r) args s 0 0 (aN 30 a sz)) (F0 m pc ls [.int v]) := by
    intro v t pc H locs ls hd h hz hv
    cases h
    exact zzret hsz hx hb hr hlocks hv hz hd
  generalize (MQ below (Qzi (dC, dI) 30 a (wdC cI cZ a σ2) sz r) args s 0 0 (aN 30 a sz)) = Q at rt ⊢
  unfold fX4_add_c at h
  refine lv_aload_n hx hb dX4_add_0 rfl (lv_at hl 0 rfl) ?_
  refine va_get (v := .int (σ 57 0)) hx hb hts inX4_add_X4 hown hKK.1 hz.1 18 rfl rfl 5 (by decide) (hts _ (List.mem_of_getElem? (i := 1) rfl)) (fun _ h9 => h9) rfl dX4_add_1 ?_
  refine lv_if_lt (tgt := 26) hx hb dX4_add_4 (by decide) (fun c1 => ?_) (fun c1 => ?_)
  · replace h := ite_t c1 h
    refine lv_iconst (v := (0 : Int32)) hx hb dX4_add_26 (by decide) ?_
    exact rt (0 : Int32) σ 27 _ _ _ dX4_add_27 h hz (Or.inl rfl)
  · replace h := ite_f c1 h
    refine lv_aload_n hx hb dX4_add_7 rfl (lv_at hl 0 rfl) ?_
    refine va_get (v := .int (σ 57 0)) hx hb hts inX4_add_X4 hown hKK.1 hz.1 18 rfl rfl 5 (by decide) (hts _ (List.mem_of_getElem? (i := 1) rfl)) (fun _ h9 => h9) rfl dX4_add_8 ?_
    refine lv_aload_n hx hb dX4_add_11 rfl (lv_at hl 0 rfl) ?_
    refine va_get (v := .ref (a 19)) hx hb hts inX4_add_X4 hown hKK.1 hz.1 18 rfl rfl 0 (by decide) (hts _ (List.mem_of_getElem? (i := 2) rfl)) (fun _ h9 => h9) rfl dX4_add_12 ?_
    refine va_alen (v := (16 : Int32)) hx hb hKK.1 hz.1 19 0 rfl rfl rfl dX4_add_15 ?_
    refine lv_icmp_ge (tgt := 26) hx hb dX4_add_16 (by decide) (fun c2 => ?_) (fun c2 => ?_)
    · replace h := ite_t c2 h
      refine lv_iconst (v := (0 : Int32)) hx hb dX4_add_26 (by decide) ?_
      exact rt (0 : Int32) σ 27 _ _ _ dX4_add_27 h hz (Or.inl rfl)
    · replace h := ite_f c2 h
      refine lv_iload_n hx hb dX4_add_19 rfl (lv_at hl 2 rfl) ?_
      obtain ⟨r3, e5, h⟩ := bd1_e h
      refine zcallSi (As := [.int x2]) (rest := []) CF hKK (KX4_isItem (dC := dC) (dI := dI) (cI := cI) (cZ := cZ) (a := a) hok e5) (va_cwS 1 hts gX4_add_X4_isItem rfl rfl rfl cdX4_isItem.2 ⟨Nat.le_of_ble_eq_true rfl, Nat.le_of_ble_eq_true rfl⟩) hz rfl hl.1 rfl (Nat.le_of_ble_eq_true rfl) dX4_add_20 ⟨Nat.le_refl _, Nat.le_refl _⟩ (fun H locs hz => ?_)
      refine lv_if_ne (tgt := 28) hx hb dX4_add_23 (by decide) (fun c6 => ?_) (fun c6 => ?_)
      · replace h := ite_f c6 h
        refine lv_aload_n hx hb dX4_add_28 rfl (lv_at hl 0 rfl) ?_
        refine va_get (v := .ref (a 19)) hx hb hts inX4_add_X4 hown hKK.1 hz.1 18 rfl rfl 0 (by decide) (hts _ (List.mem_of_getElem? (i := 2) rfl)) (fun _ h9 => h9) rfl dX4_add_29 ?_
        refine lv_aload_n hx hb dX4_add_32 rfl (lv_at hl 0 rfl) ?_
        refine va_get (v := .int (σ 57 0)) hx hb hts inX4_add_X4 hown hKK.1 hz.1 18 rfl rfl 5 (by decide) (hts _ (List.mem_of_getElem? (i := 1) rfl)) (fun _ h9 => h9) rfl dX4_add_33 ?_
        refine lv_iload_n hx hb dX4_add_36 rfl (lv_at hl 1 rfl) ?_
        obtain ⟨c7, h⟩ := ck_e h
        refine ziast (f := σ 19) (w' := wdC cI cZ a (sa σ 19 (Int32.toNatClampNeg (σ 57 0)) x1)) hx hb hKK hok wkC hz 19 rfl c7 setCa_19 dX4_add_37 (fun H locs hz => ?_)
        refine lv_aload_n hx hb dX4_add_38 rfl (lv_at hl 0 rfl) ?_
        refine va_get (v := .ref (a 20)) hx hb hts inX4_add_X4 hown hKK.1 hz.1 18 rfl rfl 1 (by decide) (hts _ (List.mem_of_getElem? (i := 3) rfl)) (fun _ h9 => h9) rfl dX4_add_39 ?_
        refine lv_aload_n hx hb dX4_add_42 rfl (lv_at hl 0 rfl) ?_
        refine va_get (v := .int (σ 57 0)) hx hb hts inX4_add_X4 hown hKK.1 hz.1 18 rfl rfl 5 (by decide) (hts _ (List.mem_of_getElem? (i := 1) rfl)) (fun _ h9 => h9) rfl dX4_add_43 ?_
        refine lv_iload_n hx hb dX4_add_46 rfl (lv_at hl 2 rfl) ?_
        obtain ⟨c8, h⟩ := ck_e h
        refine ziast (f := (sa σ 19 (Int32.toNatClampNeg (σ 57 0)) x1) 20) (w' := wdC cI cZ a (sa (sa σ 19 (Int32.toNatClampNeg (σ 57 0)) x1) 20 (Int32.toNatClampNeg (σ 57 0)) x2)) hx hb hKK hok wkC hz 20 rfl c8 setCa_20 dX4_add_47 (fun H locs hz => ?_)
        refine lv_aload_n hx hb dX4_add_48 rfl (lv_at hl 0 rfl) ?_
        refine va_get (v := .ref (a 21)) hx hb hts inX4_add_X4 hown hKK.1 hz.1 18 rfl rfl 2 (by decide) (hts _ (List.mem_of_getElem? (i := 4) rfl)) (fun _ h9 => h9) rfl dX4_add_49 ?_
        refine lv_aload_n hx hb dX4_add_52 rfl (lv_at hl 0 rfl) ?_
        refine va_get (v := .int (σ 57 0)) hx hb hts inX4_add_X4 hown hKK.1 hz.1 18 rfl rfl 5 (by decide) (hts _ (List.mem_of_getElem? (i := 1) rfl)) (fun _ h9 => h9) rfl dX4_add_53 ?_
        refine lv_aload_n hx hb dX4_add_56 rfl (lv_at hl 0 rfl) ?_
        refine va_get (v := .ref (a 22)) hx hb hts inX4_add_X4 hown hKK.1 hz.1 18 rfl rfl 3 (by decide) (hts _ (List.mem_of_getElem? (i := 5) rfl)) (fun _ h9 => h9) rfl dX4_add_57 ?_
        refine lv_iload_n hx hb dX4_add_60 rfl (lv_at hl 2 rfl) ?_
        obtain ⟨c9, h⟩ := ck_e h
        refine va_iald (f := (σ 22)) hx hb hKK.1 hz.1 22 0 rfl rfl c9 dX4_add_61 ?_
        obtain ⟨c10, h⟩ := ck_e h
        refine ziast (f := (sa (sa σ 19 (Int32.toNatClampNeg (σ 57 0)) x1) 20 (Int32.toNatClampNeg (σ 57 0)) x2) 21) (w' := wdC cI cZ a (sa (sa (sa σ 19 (Int32.toNatClampNeg (σ 57 0)) x1) 20 (Int32.toNatClampNeg (σ 57 0)) x2) 21 (Int32.toNatClampNeg (σ 57 0)) ((σ 22) (Int32.toNatClampNeg x2)))) hx hb hKK hok wkC hz 21 rfl c10 setCa_21 dX4_add_62 (fun H locs hz => ?_)
        refine lv_aload_n hx hb dX4_add_63 rfl (lv_at hl 0 rfl) ?_
        refine va_get (v := .ref (a 22)) hx hb hts inX4_add_X4 hown hKK.1 hz.1 18 rfl rfl 3 (by decide) (hts _ (List.mem_of_getElem? (i := 5) rfl)) (fun _ h9 => h9) rfl dX4_add_64 ?_
        refine lv_iload_n hx hb dX4_add_67 rfl (lv_at hl 2 rfl) ?_
        refine lv_dup2_11 hx hb dX4_add_68 rfl rfl ?_
        obtain ⟨c11, h⟩ := ck_e h
        refine va_iald (f := (σ 22)) hx hb hKK.1 hz.1 22 0 rfl rfl c11 dX4_add_69 ?_
        refine lv_iconst (v := (1 : Int32)) hx hb dX4_add_70 (by decide) ?_
        refine lv_iadd hx hb dX4_add_71 ?_
        obtain ⟨c12, h⟩ := ck_e h
        refine ziast (f := (sa (sa (sa σ 19 (Int32.toNatClampNeg (σ 57 0)) x1) 20 (Int32.toNatClampNeg (σ 57 0)) x2) 21 (Int32.toNatClampNeg (σ 57 0)) ((σ 22) (Int32.toNatClampNeg x2))) 22) (w' := wdC cI cZ a (sa (sa (sa (sa σ 19 (Int32.toNatClampNeg (σ 57 0)) x1) 20 (Int32.toNatClampNeg (σ 57 0)) x2) 21 (Int32.toNatClampNeg (σ 57 0)) ((σ 22) (Int32.toNatClampNeg x2))) 22 (Int32.toNatClampNeg x2) (((σ 22) (Int32.toNatClampNeg x2)) + (1 : Int32)))) hx hb hKK hok wkC hz 22 rfl c12 setCa_22 dX4_add_72 (fun H locs hz => ?_)
        refine lv_aload_n hx hb dX4_add_73 rfl (lv_at hl 0 rfl) ?_
        refine lv_dup hx hb dX4_add_74 rfl ?_
        refine va_get (v := .int (σ 57 0)) hx hb hts inX4_add_X4 hown hKK.1 hz.1 18 rfl rfl 5 (by decide) (hts _ (List.mem_of_getElem? (i := 1) rfl)) (fun _ h9 => h9) rfl dX4_add_75 ?_
        refine lv_iconst (v := (1 : Int32)) hx hb dX4_add_78 (by decide) ?_
        refine lv_iadd hx hb dX4_add_79 ?_
        refine zput (ty := .int) (w' := wdC cI cZ a (si (sa (sa (sa (sa σ 19 (Int32.toNatClampNeg (σ 57 0)) x1) 20 (Int32.toNatClampNeg (σ 57 0)) x2) 21 (Int32.toNatClampNeg (σ 57 0)) ((σ 22) (Int32.toNatClampNeg x2))) 22 (Int32.toNatClampNeg x2) (((σ 22) (Int32.toNatClampNeg x2)) + (1 : Int32))) 57 ((σ 57 0) + (1 : Int32)))) hx hb hts inX4_add_X4 tyX4 tyX4_ok nmX4 hown hKK hok wkC hz 18 rfl rfl 5 (by decide) (hts _ (List.mem_of_getElem? (i := 1) rfl)) (fun _ h9 => h9) rfl rfl rfl rfl (Nat.le_of_ble_eq_true rfl) setCi_57 dX4_add_80 (fun H locs hz => ?_)
        refine lv_iconst (v := (1 : Int32)) hx hb dX4_add_83 (by decide) ?_
        exact rt (1 : Int32) (si (sa (sa (sa (sa σ 19 (Int32.toNatClampNeg (σ 57 0)) x1) 20 (Int32.toNatClampNeg (σ 57 0)) x2) 21 (Int32.toNatClampNeg (σ 57 0)) ((σ 22) (Int32.toNatClampNeg x2))) 22 (Int32.toNatClampNeg x2) (((σ 22) (Int32.toNatClampNeg x2)) + (1 : Int32))) 57 ((σ 57 0) + (1 : Int32))) 84 _ _ _ dX4_add_84 h hz (Or.inr rfl)
      · replace h := ite_t c6 h
        refine lv_iconst (v := (0 : Int32)) hx hb dX4_add_26 (by decide) ?_
        exact rt (0 : Int32) σ 27 _ _ _ dX4_add_27 h hz (Or.inl rfl)
def fX2_bringsConstant_s13 (k13 : St → Int32 → Int32 → Int32 → Int32 → Option (Int32 × St)) (σ : St) (y1 : Int32) (y2 : Int32) (y3 : Int32) (y4 : Int32) : Option (Int32 × St) :=
  (bd1 (fX0_size_p σ ) fun r4 => (if r4 ≤ y4 then ((if y3 = (-1 : Int32) then (some ((0 : Int32), σ)) else ((bd1 (fX0_toldOf_p σ y1) fun r9 => (bd2 (fX4_add_c σ r9 y3) fun r12 s13 => (if r12 = 0 then (some ((0 : Int32), s13)) else (some ((1 : Int32), s13)))))))) else ((bd1 (fX0_kindOf_p σ y4) fun r16 => (if r16 = (5 : Int32) then ((bd1 (fX2_nextConstantIn σ y4) fun r20 => (bd1 (fX2_isInLoadReach σ y2 r20) fun r23 => (if r23 = 0 then (k13 σ y1 y2 y3 (y4 + (1 : Int32))) else (k13 σ y1 y2 y4 (y4 + (1 : Int32))))))) else (k13 σ y1 y2 y3 (y4 + (1 : Int32))))))))
def fX2_bringsConstant_l13  : Nat → St → Int32 → Int32 → Int32 → Int32 → Option (Int32 × St) :=
  itr (fX2_bringsConstant_s13 ) (fun _ _ _ _ _ => none)
def fX2_bringsConstant (σ : St) (x1 : Int32) : Option (Int32 × St) :=
  (bd1 (fX2_addressOf σ x1) fun r1 => fX2_bringsConstant_l13  FU σ x1 r1 (-1 : Int32) (x1 + (1 : Int32)))
abbrev rmX2_bringsConstant : Room := { frames := 3, cells := 0, slots := 0, locals := 63 }
set_option maxHeartbeats 4000000 in
set_option maxRecDepth 100000 in
theorem KX2_bringsConstant {l : Launch} {dC : Nat → ClassId} {dI : Nat → Nat → Nat} {cI cZ : ClassId} {a : Nat → Nat} {σ : St} {x1 : Int32} {r : Int32} {σ2 : St} (hok : okA 30 a) (h : fX2_bringsConstant σ x1 = some (r, σ2)) (sz : Nat) : Met l yX2_bringsConstant wsX2_bringsConstant rmX2_bringsConstant (Pz (dC, dI) cI cZ (wdC cI cZ a σ) sz [.ref (a 11), .int x1]) (Qzi (dC, dI) 30 a (wdC cI cZ a σ2) sz r) 0 0 (aN 30 a sz) := by
  refine Met.ofW (cc := cX2_bringsConstant) (maxL := 5) (ret := (some .boolean)) (by decide) rfl ?_
  intro p e s m args below meth c s₁ B hml hv
  obtain ⟨hav, hsz, hP, hKK⟩ := hv
  have hx := B.exec
  have hb := B.bytes
  have hr := B.returns
  have hts := atoms_spec (ws := wsX2_bringsConstant) B.pre
  have hown : s.vm.findClass RX2 = some m.cls := findClass_of_methodNamed B.named
  have hlocks := B.notSynchronized
  have CF : CallFix p m c cX2_bringsConstant 5 s args wsX2_bringsConstant RX2 := ⟨hx, hb, hml, hown, hts⟩
  have hz : zz (dC, dI) 30 a (wdC cI cZ a σ) s.heap s.heap [] := ⟨hP, va_S.rf⟩
  have hl := lv_entry [.ref (a 11), .int x1] (n := 5) (Nat.le_of_ble_eq_true rfl)
  have hen : entryFrame m args 5 = entryFrame m ([.ref (a 11), .int x1] : List Value).toArray 5 := by rw [hav]
  rw [hen, lg_entry_eq]
  generalize (lg_sl [.ref (a 11), .int x1] ++ List.replicate (5 - (lg_sl [.ref (a 11), .int x1]).length) Slot.unset).toArray = ls at hl ⊢
  have hl : lv_has ls 5 [(0, .ref (a 11)), (1, .int x1)] := hl
  have eR : (headSpec wsX2_bringsConstant rmX2_bringsConstant).room = rmX2_bringsConstant := rfl
  rw [eR]
  have rt : ∀ (v : Int32) (t : St) (pc : Nat) (H : Heap) (locs : List Loc) (ls : Array Slot), decode cX2_bringsConstant pc = .ok (.ireturn, 1) → some (v, t) = some (r, σ2) → zz (dC, dI) 30 a (wdC cI cZ a t) s.heap H locs → (v = 0 ∨ v = 1) → W p l e rmX2_bringsConstant s m args below meth c H locs 0 0 (MQ below (Qzi (dC, dI) 30 a (wdC cI cZ a σ2) sz r) args s 0 0 (aN 30 a sz)) (F0 m pc ls [.int v]) := by
    intro v t pc H locs ls hd h hz hv
    cases h
    exact zzret hsz hx hb hr hlocks hv hz hd
  generalize (MQ below (Qzi (dC, dI) 30 a (wdC cI cZ a σ2) sz r) args s 0 0 (aN 30 a sz)) = Q at rt ⊢
  have s13 : ∀ (k13 : St → Int32 → Int32 → Int32 → Int32 → Option (Int32 × St)) (hk13 : (∀ (σ : St) (y1 : Int32) (y2 : Int32) (y3 : Int32) (y4 : Int32) (H : Heap) (locs : List Loc) (ls : Array Slot), k13 σ y1 y2 y3 y4 = some (r, σ2) → zz (dC, dI) 30 a (wdC cI cZ a σ) s.heap H locs → lv_has ls 5 [(0, .ref (a 11)), (1, .int y1), (2, .int y2), (3, .int y3), (4, .int y4)] → W p l e rmX2_bringsConstant s m args below meth c H locs 0 0 Q (F0 m 13 ls []))) (σ : St) (y1 : Int32) (y2 : Int32) (y3 : Int32) (y4 : Int32) (H : Heap) (locs : List Loc) (ls : Array Slot), fX2_bringsConstant_s13 k13 σ y1 y2 y3 y4 = some (r, σ2) → zz (dC, dI) 30 a (wdC cI cZ a σ) s.heap H locs → lv_has ls 5 [(0, .ref (a 11)), (1, .int y1), (2, .int y2), (3, .int y3), (4, .int y4)] → W p l e rmX2_bringsConstant s m args below meth c H locs 0 0 Q (F0 m 13 ls []) := by
    intro k13 hk13 σ y1 y2 y3 y4 H locs ls h hz hl
    unfold fX2_bringsConstant_s13 at h
    refine lv_iload hx hb dX2_bringsConstant_13 (lv_at hl 4 rfl) ?_
    refine lv_aload_n hx hb dX2_bringsConstant_15 rfl (lv_at hl 0 rfl) ?_
    refine va_get (v := .ref (a 7)) hx hb hts inX2_bringsConstant_X2 hown hKK.1 hz.1 11 rfl rfl 0 (by decide) (hts _ (List.mem_of_getElem? (i := 1) rfl)) (fun _ h9 => h9) rfl dX2_bringsConstant_16 ?_
    obtain ⟨r4, e6, h⟩ := bd1_e h
    refine zcallVi (As := []) (rest := [.int y4]) CF hKK (KX0_size_p (dC := dC) (dI := dI) (cI := cI) (cZ := cZ) (a := a) hok e6) (cwV 0 hts gX2_bringsConstant_X0_size rfl rfl rfl cdX0_size ⟨Nat.le_of_ble_eq_true rfl, Nat.le_of_ble_eq_true rfl⟩) 7 0 rfl rfl hz rfl hl.1 rfl (Nat.le_of_ble_eq_true rfl) dX2_bringsConstant_19 ⟨Nat.le_refl _, Nat.le_refl _⟩ (fun H locs hz => ?_)
    refine lv_icmp_ge (tgt := 61) hx hb dX2_bringsConstant_22 (by decide) (fun c7 => ?_) (fun c7 => ?_)
    · replace h := ite_t c7 h
      refine lv_iload_n hx hb dX2_bringsConstant_61 rfl (lv_at hl 3 rfl) ?_
      refine lv_iconst (v := (-1 : Int32)) hx hb dX2_bringsConstant_62 (by decide) ?_
      refine lv_icmp_eq (tgt := 89) hx hb dX2_bringsConstant_63 (by decide) (fun c8 => ?_) (fun c8 => ?_)
      · replace h := ite_t c8 h
        refine lv_iconst (v := (0 : Int32)) hx hb dX2_bringsConstant_89 (by decide) ?_
        exact rt (0 : Int32) σ 90 _ _ _ dX2_bringsConstant_90 h hz (Or.inl rfl)
      · replace h := ite_f c8 h
        refine lv_aload_n hx hb dX2_bringsConstant_66 rfl (lv_at hl 0 rfl) ?_
        refine va_get (v := .ref (a 18)) hx hb hts inX2_bringsConstant_X2 hown hKK.1 hz.1 11 rfl rfl 3 (by decide) (hts _ (List.mem_of_getElem? (i := 2) rfl)) (fun _ h9 => h9) rfl dX2_bringsConstant_67 ?_
        refine lv_aload_n hx hb dX2_bringsConstant_70 rfl (lv_at hl 0 rfl) ?_
        refine va_get (v := .ref (a 7)) hx hb hts inX2_bringsConstant_X2 hown hKK.1 hz.1 11 rfl rfl 0 (by decide) (hts _ (List.mem_of_getElem? (i := 1) rfl)) (fun _ h9 => h9) rfl dX2_bringsConstant_71 ?_
        refine lv_iload_n hx hb dX2_bringsConstant_74 rfl (lv_at hl 1 rfl) ?_
        obtain ⟨r9, e11, h⟩ := bd1_e h
        refine zcallVi (As := [.int y1]) (rest := [.ref (a 18)]) CF hKK (KX0_toldOf_p (dC := dC) (dI := dI) (cI := cI) (cZ := cZ) (a := a) hok e11) (cwV 1 hts gX2_bringsConstant_X0_toldOf rfl rfl rfl cdX0_toldOf ⟨Nat.le_of_ble_eq_true rfl, Nat.le_of_ble_eq_true rfl⟩) 7 0 rfl rfl hz rfl hl.1 rfl (Nat.le_of_ble_eq_true rfl) dX2_bringsConstant_75 ⟨Nat.le_refl _, Nat.le_refl _⟩ (fun H locs hz => ?_)
        refine lv_iload_n hx hb dX2_bringsConstant_78 rfl (lv_at hl 3 rfl) ?_
        obtain ⟨r12, s13, e14, h⟩ := bd2_e h
        refine zcallVi (As := [.int r9, .int y3]) (rest := []) CF hKK (KX4_add_c (dC := dC) (dI := dI) (cI := cI) (cZ := cZ) (a := a) hok e14) (cwV 2 hts gX2_bringsConstant_X4_add rfl rfl rfl cdX4_add ⟨Nat.le_of_ble_eq_true rfl, Nat.le_of_ble_eq_true rfl⟩) 18 4 rfl rfl hz rfl hl.1 rfl (Nat.le_of_ble_eq_true rfl) dX2_bringsConstant_79 ⟨Nat.le_refl _, Nat.le_refl _⟩ (fun H locs hz => ?_)
        refine lv_if_eq (tgt := 89) hx hb dX2_bringsConstant_82 (by decide) (fun c15 => ?_) (fun c15 => ?_)
        · replace h := ite_t c15 h
          refine lv_iconst (v := (0 : Int32)) hx hb dX2_bringsConstant_89 (by decide) ?_
          exact rt (0 : Int32) s13 90 _ _ _ dX2_bringsConstant_90 h hz (Or.inl rfl)
        · replace h := ite_f c15 h
          refine lv_iconst (v := (1 : Int32)) hx hb dX2_bringsConstant_85 (by decide) ?_
          refine lv_goto (tgt := 90) hx hb dX2_bringsConstant_86 (by decide) ?_
          exact rt (1 : Int32) s13 90 _ _ _ dX2_bringsConstant_90 h hz (Or.inr rfl)
    · replace h := ite_f c7 h
      refine lv_aload_n hx hb dX2_bringsConstant_25 rfl (lv_at hl 0 rfl) ?_
      refine va_get (v := .ref (a 7)) hx hb hts inX2_bringsConstant_X2 hown hKK.1 hz.1 11 rfl rfl 0 (by decide) (hts _ (List.mem_of_getElem? (i := 1) rfl)) (fun _ h9 => h9) rfl dX2_bringsConstant_26 ?_
      refine lv_iload hx hb dX2_bringsConstant_29 (lv_at hl 4 rfl) ?_
      obtain ⟨r16, e18, h⟩ := bd1_e h
      refine zcallVi (As := [.int y4]) (rest := []) CF hKK (KX0_kindOf_p (dC := dC) (dI := dI) (cI := cI) (cZ := cZ) (a := a) hok e18) (cwV 1 hts gX2_bringsConstant_X0_kindOf rfl rfl rfl cdX0_kindOf ⟨Nat.le_of_ble_eq_true rfl, Nat.le_of_ble_eq_true rfl⟩) 7 0 rfl rfl hz rfl hl.1 rfl (Nat.le_of_ble_eq_true rfl) dX2_bringsConstant_31 ⟨Nat.le_refl _, Nat.le_refl _⟩ (fun H locs hz => ?_)
      refine lv_iconst (v := (5 : Int32)) hx hb dX2_bringsConstant_34 (by decide) ?_
      refine lv_icmp_ne (tgt := 55) hx hb dX2_bringsConstant_35 (by decide) (fun c19 => ?_) (fun c19 => ?_)
      · replace h := ite_f c19 h
        refine lv_iinc (v := (y4 + (1 : Int32))) (lv' := [(4, .int (y4 + (1 : Int32))), (0, .ref (a 11)), (1, .int y1), (2, .int y2), (3, .int y3)]) hx hb dX2_bringsConstant_55 hl (k := 4) rfl rfl (by decide) rfl (fun ls hl => ?_)
        refine lv_goto (tgt := 13) hx hb dX2_bringsConstant_58 (by decide) ?_
        exact hk13 σ y1 y2 y3 (y4 + (1 : Int32)) _ _ _ h hz (lv_sub hl [1, 2, 3, 4, 0] rfl)
      · replace h := ite_t c19 h
        refine lv_aload_n hx hb dX2_bringsConstant_38 rfl (lv_at hl 0 rfl) ?_
        refine lv_iload_n hx hb dX2_bringsConstant_39 rfl (lv_at hl 2 rfl) ?_
        refine lv_aload_n hx hb dX2_bringsConstant_40 rfl (lv_at hl 0 rfl) ?_
        refine lv_iload hx hb dX2_bringsConstant_41 (lv_at hl 4 rfl) ?_
        obtain ⟨r20, e22, h⟩ := bd1_e h
        refine zcallVi (As := [.int y4]) (rest := [.int y2, .ref (a 11)]) CF hKK (KX2_nextConstantIn (dC := dC) (dI := dI) (cI := cI) (cZ := cZ) (a := a) hok e22) (cwV 1 hts gX2_bringsConstant_X2_nextConstantIn rfl rfl rfl cdX2_nextConstantIn ⟨Nat.le_of_ble_eq_true rfl, Nat.le_of_ble_eq_true rfl⟩) 11 2 rfl rfl hz rfl hl.1 rfl (Nat.le_of_ble_eq_true rfl) dX2_bringsConstant_43 ⟨Nat.le_refl _, Nat.le_refl _⟩ (fun H locs hz => ?_)
        obtain ⟨r23, e25, h⟩ := bd1_e h
        refine zcallVi (As := [.int y2, .int r20]) (rest := []) CF hKK (KX2_isInLoadReach (dC := dC) (dI := dI) (cI := cI) (cZ := cZ) (a := a) hok e25) (cwV 2 hts gX2_bringsConstant_X2_isInLoadReach rfl rfl rfl cdX2_isInLoadReach ⟨Nat.le_of_ble_eq_true rfl, Nat.le_of_ble_eq_true rfl⟩) 11 2 rfl rfl hz rfl hl.1 rfl (Nat.le_of_ble_eq_true rfl) dX2_bringsConstant_46 ⟨Nat.le_refl _, Nat.le_refl _⟩ (fun H locs hz => ?_)
        refine lv_if_eq (tgt := 55) hx hb dX2_bringsConstant_49 (by decide) (fun c26 => ?_) (fun c26 => ?_)
        · replace h := ite_t c26 h
          refine lv_iinc (v := (y4 + (1 : Int32))) (lv' := [(4, .int (y4 + (1 : Int32))), (0, .ref (a 11)), (1, .int y1), (2, .int y2), (3, .int y3)]) hx hb dX2_bringsConstant_55 hl (k := 4) rfl rfl (by decide) rfl (fun ls hl => ?_)
          refine lv_goto (tgt := 13) hx hb dX2_bringsConstant_58 (by decide) ?_
          exact hk13 σ y1 y2 y3 (y4 + (1 : Int32)) _ _ _ h hz (lv_sub hl [1, 2, 3, 4, 0] rfl)
        · replace h := ite_f c26 h
          refine lv_iload hx hb dX2_bringsConstant_52 (lv_at hl 4 rfl) ?_
          refine lv_istore_n (lv' := [(3, .int y4), (0, .ref (a 11)), (1, .int y1), (2, .int y2), (4, .int y4)]) hx hb dX2_bringsConstant_54 rfl hl (by decide) rfl (fun ls hl => ?_)
          refine lv_iinc (v := (y4 + (1 : Int32))) (lv' := [(4, .int (y4 + (1 : Int32))), (3, .int y4), (0, .ref (a 11)), (1, .int y1), (2, .int y2)]) hx hb dX2_bringsConstant_55 hl (k := 4) rfl rfl (by decide) rfl (fun ls hl => ?_)
          refine lv_goto (tgt := 13) hx hb dX2_bringsConstant_58 (by decide) ?_
          exact hk13 σ y1 y2 y4 (y4 + (1 : Int32)) _ _ _ h hz (lv_sub hl [2, 3, 4, 1, 0] rfl)
  have l13 : ∀  (n : Nat), ∀ (σ : St) (y1 : Int32) (y2 : Int32) (y3 : Int32) (y4 : Int32) (H : Heap) (locs : List Loc) (ls : Array Slot), fX2_bringsConstant_l13  n σ y1 y2 y3 y4 = some (r, σ2) → zz (dC, dI) 30 a (wdC cI cZ a σ) s.heap H locs → lv_has ls 5 [(0, .ref (a 11)), (1, .int y1), (2, .int y2), (3, .int y3), (4, .int y4)] → W p l e rmX2_bringsConstant s m args below meth c H locs 0 0 Q (F0 m 13 ls []) := by
    intro  n
    induction n with
    | zero => intro σ y1 y2 y3 y4 H locs ls h; exact nomatch h
    | succ n ih => exact s13  (fX2_bringsConstant_l13  n) ih
  unfold fX2_bringsConstant at h
  refine lv_aload_n hx hb dX2_bringsConstant_0 rfl (lv_at hl 0 rfl) ?_
  refine lv_iload_n hx hb dX2_bringsConstant_1 rfl (lv_at hl 1 rfl) ?_
  obtain ⟨r1, e3, h⟩ := bd1_e h
  refine zcallVi (As := [.int x1]) (rest := []) CF hKK (KX2_addressOf (dC := dC) (dI := dI) (cI := cI) (cZ := cZ) (a := a) hok e3) (cwV 1 hts gX2_bringsConstant_X2_addressOf rfl rfl rfl cdX2_addressOf ⟨Nat.le_of_ble_eq_true rfl, Nat.le_of_ble_eq_true rfl⟩) 11 2 rfl rfl hz rfl hl.1 rfl (Nat.le_of_ble_eq_true rfl) dX2_bringsConstant_2 ⟨Nat.le_refl _, Nat.le_refl _⟩ (fun H locs hz => ?_)
  refine lv_istore_n (lv' := [(2, .int r1), (0, .ref (a 11)), (1, .int x1)]) hx hb dX2_bringsConstant_5 rfl hl (by decide) rfl (fun ls hl => ?_)
  refine lv_iconst (v := (-1 : Int32)) hx hb dX2_bringsConstant_6 (by decide) ?_
  refine lv_istore_n (lv' := [(3, .int (-1 : Int32)), (2, .int r1), (0, .ref (a 11)), (1, .int x1)]) hx hb dX2_bringsConstant_7 rfl hl (by decide) rfl (fun ls hl => ?_)
  refine lv_iload_n hx hb dX2_bringsConstant_8 rfl (lv_at hl 3 rfl) ?_
  refine lv_iconst (v := (1 : Int32)) hx hb dX2_bringsConstant_9 (by decide) ?_
  refine lv_iadd hx hb dX2_bringsConstant_10 ?_
  refine lv_istore (lv' := [(4, .int (x1 + (1 : Int32))), (3, .int (-1 : Int32)), (2, .int r1), (0, .ref (a 11)), (1, .int x1)]) hx hb dX2_bringsConstant_11 hl (by decide) rfl (fun ls hl => ?_)
  exact l13  FU σ x1 r1 (-1 : Int32) (x1 + (1 : Int32)) _ _ _ h hz (lv_sub hl [3, 4, 2, 1, 0] rfl)
def fX2_fails (σ : St) (x1 : Int32) (x2 : Int32) : Option (Int32 × St) :=
  some ((0 : Int32), (si (si σ 54 x1) 55 x2))
abbrev rmX2_fails : Room := { frames := 0, cells := 0, slots := 0, locals := 0 }
set_option maxHeartbeats 4000000 in
set_option maxRecDepth 100000 in
theorem KX2_fails {l : Launch} {dC : Nat → ClassId} {dI : Nat → Nat → Nat} {cI cZ : ClassId} {a : Nat → Nat} {σ : St} {x1 : Int32} {x2 : Int32} {r : Int32} {σ2 : St} (hok : okA 30 a) (h : fX2_fails σ x1 x2 = some (r, σ2)) (sz : Nat) : Met l yX2_fails wsX2_fails rmX2_fails (Pz (dC, dI) cI cZ (wdC cI cZ a σ) sz [.ref (a 11), .int x1, .int x2]) (Qzi (dC, dI) 30 a (wdC cI cZ a σ2) sz r) 0 0 (aN 30 a sz) := by
  refine Met.ofW (cc := cX2_fails) (maxL := 3) (ret := (some .boolean)) (by decide) rfl ?_
  intro p e s m args below meth c s₁ B hml hv
  obtain ⟨hav, hsz, hP, hKK⟩ := hv
  have hx := B.exec
  have hb := B.bytes
  have hr := B.returns
  have hts := atoms_spec (ws := wsX2_fails) B.pre
  have hown : s.vm.findClass RX2 = some m.cls := findClass_of_methodNamed B.named
  have hlocks := B.notSynchronized
  have CF : CallFix p m c cX2_fails 3 s args wsX2_fails RX2 := ⟨hx, hb, hml, hown, hts⟩
  have hz : zz (dC, dI) 30 a (wdC cI cZ a σ) s.heap s.heap [] := ⟨hP, va_S.rf⟩
  have hl := lv_entry [.ref (a 11), .int x1, .int x2] (n := 3) (Nat.le_of_ble_eq_true rfl)
  have hen : entryFrame m args 3 = entryFrame m ([.ref (a 11), .int x1, .int x2] : List Value).toArray 3 := by rw [hav]
  rw [hen, lg_entry_eq]
  generalize (lg_sl [.ref (a 11), .int x1, .int x2] ++ List.replicate (3 - (lg_sl [.ref (a 11), .int x1, .int x2]).length) Slot.unset).toArray = ls at hl ⊢
  have hl : lv_has ls 3 [(0, .ref (a 11)), (1, .int x1), (2, .int x2)] := hl
  have eR : (headSpec wsX2_fails rmX2_fails).room = rmX2_fails := rfl
  rw [eR]
  have rt : ∀ (v : Int32) (t : St) (pc : Nat) (H : Heap) (locs : List Loc) (ls : Array Slot), decode cX2_fails pc = .ok (.ireturn, 1) → some (v, t) = some (r, σ2) → zz (dC, dI) 30 a (wdC cI cZ a t) s.heap H locs → (v = 0 ∨ v = 1) → W p l e rmX2_fails s m args below meth c H locs 0 0 (MQ below (Qzi (dC, dI) 30 a (wdC cI cZ a σ2) sz r) args s 0 0 (aN 30 a sz)) (F0 m pc ls [.int v]) := by
    intro v t pc H locs ls hd h hz hv
    cases h
    exact zzret hsz hx hb hr hlocks hv hz hd
  generalize (MQ below (Qzi (dC, dI) 30 a (wdC cI cZ a σ2) sz r) args s 0 0 (aN 30 a sz)) = Q at rt ⊢
  unfold fX2_fails at h
  refine lv_aload_n hx hb dX2_fails_0 rfl (lv_at hl 0 rfl) ?_
  refine lv_iload_n hx hb dX2_fails_1 rfl (lv_at hl 1 rfl) ?_
  refine zput (ty := .int) (w' := wdC cI cZ a (si σ 54 x1)) hx hb hts inX2_fails_X2 tyX2 tyX2_ok nmX2 hown hKK hok wkC hz 11 rfl rfl 14 (by decide) (hts _ (List.mem_of_getElem? (i := 1) rfl)) (fun _ h9 => h9) rfl rfl rfl rfl (Nat.le_of_ble_eq_true rfl) setCi_54 dX2_fails_2 (fun H locs hz => ?_)
  refine lv_aload_n hx hb dX2_fails_5 rfl (lv_at hl 0 rfl) ?_
  refine lv_iload_n hx hb dX2_fails_6 rfl (lv_at hl 2 rfl) ?_
  refine zput (ty := .int) (w' := wdC cI cZ a (si (si σ 54 x1) 55 x2)) hx hb hts inX2_fails_X2 tyX2 tyX2_ok nmX2 hown hKK hok wkC hz 11 rfl rfl 15 (by decide) (hts _ (List.mem_of_getElem? (i := 2) rfl)) (fun _ h9 => h9) rfl rfl rfl rfl (Nat.le_of_ble_eq_true rfl) setCi_55 dX2_fails_7 (fun H locs hz => ?_)
  refine lv_iconst (v := (0 : Int32)) hx hb dX2_fails_10 (by decide) ?_
  exact rt (0 : Int32) (si (si σ 54 x1) 55 x2) 11 _ _ _ dX2_fails_11 h hz (Or.inl rfl)
