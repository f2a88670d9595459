def fX6_hopsNow_s41 (σ : St) (k41 : Int32 → Int32 → Int32 → Option (Int32)) (y2 : Int32) (y3 : Int32) (y4 : Int32) : Option (Int32) :=
  (bd1 (fX6_reachesLabel σ y3 y2) fun r5 => (if r5 = 0 then ((bd1 (fX6_islandFor σ y3 y2) fun r9 => (if r9 = (-1 : Int32) then (some (-1 : Int32)) else ((ck (¬ (r9 < 0 ∨ 12 ≤ Int32.toNatClampNeg r9)) <| k41 y2 ((σ 13) (Int32.toNatClampNeg r9)) (y4 + (1 : Int32))))))) else (some y4)))
def fX6_hopsNow_l41 (σ : St)  : Nat → Int32 → Int32 → Int32 → Option (Int32) :=
  itr (fX6_hopsNow_s41 σ ) (fun _ _ _ => none)
def fX6_hopsNow (σ : St) (x1 : Int32) : Option (Int32) :=
  (ck (¬ (x1 < 0 ∨ 24 ≤ Int32.toNatClampNeg x1)) <| (ck (¬ (x1 < 0 ∨ 24 ≤ Int32.toNatClampNeg x1)) <| (if ((σ 7) (Int32.toNatClampNeg x1)) = 0 then ((bd1 (fX6_shortGoes σ x1) fun r14 => (if r14 = (-1 : Int32) then (some (-1 : Int32)) else (some (0 : Int32))))) else ((ck (¬ (x1 < 0 ∨ 24 ≤ Int32.toNatClampNeg x1)) <| fX6_hopsNow_l41 σ  FU ((σ 3) (Int32.toNatClampNeg x1)) ((σ 12) (Int32.toNatClampNeg x1)) (0 : Int32))))))
abbrev rmX6_hopsNow : Room := { frames := 2, cells := 0, slots := 0, locals := 47 }
set_option maxHeartbeats 4000000 in
set_option maxRecDepth 100000 in
theorem KX6_hopsNow {l : Launch} {dC : Nat → ClassId} {dI : Nat → Nat → Nat} {cI cZ : ClassId} {a : Nat → Nat} {hh : Int64} {σ : St} {x1 : Int32} {r : Int32} (hok : okA 18 a) (h : fX6_hopsNow σ x1 = some r) (sz : Nat) : Met l yX6_hopsNow wsX6_hopsNow rmX6_hopsNow (Pz (dC, dI) cI cZ (wdM cI cZ a hh σ) sz [.ref (a 0), .int x1]) (Qzi (dC, dI) 18 a (wdM cI cZ a hh σ) sz r) 0 0 (aN 18 a sz) := by
  refine Met.ofW (cc := cX6_hopsNow) (maxL := 6) (ret := (some .int)) (by decide) rfl ?_
  intro p e s m args below meth c s₁ B hml hv
  obtain ⟨hav, hsz, hP, hKK⟩ := hv
  have hx := B.exec
  have hb := B.bytes
  have hr := B.returns
  have hts := atoms_spec (ws := wsX6_hopsNow) B.pre
  have hown : s.vm.findClass RX6 = some m.cls := findClass_of_methodNamed B.named
  have hlocks := B.notSynchronized
  have CF : CallFix p m c cX6_hopsNow 6 s args wsX6_hopsNow RX6 := ⟨hx, hb, hml, hown, hts⟩
  have hz : zz (dC, dI) 18 a (wdM cI cZ a hh σ) s.heap s.heap [] := ⟨hP, va_S.rf⟩
  have hl := lv_entry [.ref (a 0), .int x1] (n := 6) (Nat.le_of_ble_eq_true rfl)
  have hen : entryFrame m args 6 = entryFrame m ([.ref (a 0), .int x1] : List Value).toArray 6 := by rw [hav]
  rw [hen, lg_entry_eq]
  generalize (lg_sl [.ref (a 0), .int x1] ++ List.replicate (6 - (lg_sl [.ref (a 0), .int x1]).length) Slot.unset).toArray = ls at hl ⊢
  have hl : lv_has ls 6 [(0, .ref (a 0)), (1, .int x1)] := hl
  have eR : (headSpec wsX6_hopsNow rmX6_hopsNow).room = rmX6_hopsNow := rfl
  rw [eR]
  have rt : ∀ (v : Int32) (t : St) (pc : Nat) (H : Heap) (locs : List Loc) (ls : Array Slot), decode cX6_hopsNow pc = .ok (.ireturn, 1) → some v = some r → zz (dC, dI) 18 a (wdM cI cZ a hh σ) s.heap H locs → W p l e rmX6_hopsNow s m args below meth c H locs 0 0 (MQ below (Qzi (dC, dI) 18 a (wdM cI cZ a hh σ) sz r) args s 0 0 (aN 18 a sz)) (F0 m pc ls [.int v]) := by
    intro v t pc H locs ls hd h hz
    cases h
    exact ziret hsz hx hb hr hlocks hz hd
  generalize (MQ below (Qzi (dC, dI) 18 a (wdM cI cZ a hh σ) sz r) args s 0 0 (aN 18 a sz)) = Q at rt ⊢
  have s41 : ∀ (k41 : Int32 → Int32 → Int32 → Option (Int32)) (hk41 : (∀ (y2 : Int32) (y3 : Int32) (y4 : Int32) (H : Heap) (locs : List Loc) (ls : Array Slot), k41 y2 y3 y4 = some r → zz (dC, dI) 18 a (wdM cI cZ a hh σ) s.heap H locs → lv_has ls 6 [(0, .ref (a 0)), (2, .int y2), (3, .int y3), (4, .int y4)] → W p l e rmX6_hopsNow s m args below meth c H locs 0 0 Q (F0 m 41 ls []))) (y2 : Int32) (y3 : Int32) (y4 : Int32) (H : Heap) (locs : List Loc) (ls : Array Slot), fX6_hopsNow_s41 σ k41 y2 y3 y4 = some r → zz (dC, dI) 18 a (wdM cI cZ a hh σ) s.heap H locs → lv_has ls 6 [(0, .ref (a 0)), (2, .int y2), (3, .int y3), (4, .int y4)] → W p l e rmX6_hopsNow s m args below meth c H locs 0 0 Q (F0 m 41 ls []) := by
    intro k41 hk41 y2 y3 y4 H locs ls h hz hl
    unfold fX6_hopsNow_s41 at h
    refine lv_aload_n hx hb dX6_hopsNow_41 rfl (lv_at hl 0 rfl) ?_
    refine lv_iload_n hx hb dX6_hopsNow_42 rfl (lv_at hl 2 rfl) ?_
    refine lv_iload_n hx hb dX6_hopsNow_43 rfl (lv_at hl 1 rfl) ?_
    obtain ⟨r5, e7, h⟩ := bd1_e h
    refine zcallVi (As := [.int y3, .int y2]) (rest := []) CF hKK (KX6_reachesLabel (dC := dC) (dI := dI) (cI := cI) (cZ := cZ) (a := a) hok e7) (cwV 2 hts gX6_hopsNow_X6_reachesLabel rfl rfl rfl cdX6_reachesLabel ⟨Nat.le_of_ble_eq_true rfl, Nat.le_of_ble_eq_true rfl⟩) 0 6 rfl rfl hz rfl hl.1 rfl (Nat.le_of_ble_eq_true rfl) dX6_hopsNow_44 ⟨Nat.le_refl _, Nat.le_refl _⟩ (fun H locs hz => ?_)
    refine lv_if_ne (tgt := 80) hx hb dX6_hopsNow_47 (by decide) (fun c8 => ?_) (fun c8 => ?_)
    · replace h := ite_f c8 h
      refine lv_iload hx hb dX6_hopsNow_80 (lv_at hl 3 rfl) ?_
      exact rt y4 σ 82 _ _ _ dX6_hopsNow_82 h hz
    · replace h := ite_t c8 h
      refine lv_aload_n hx hb dX6_hopsNow_50 rfl (lv_at hl 0 rfl) ?_
      refine lv_iload_n hx hb dX6_hopsNow_51 rfl (lv_at hl 2 rfl) ?_
      refine lv_iload_n hx hb dX6_hopsNow_52 rfl (lv_at hl 1 rfl) ?_
      obtain ⟨r9, e11, h⟩ := bd1_e h
      refine zcallVi (As := [.int y3, .int y2]) (rest := []) CF hKK (KX6_islandFor (dC := dC) (dI := dI) (cI := cI) (cZ := cZ) (a := a) hok e11) (cwV 2 hts gX6_hopsNow_X6_islandFor rfl rfl rfl cdX6_islandFor ⟨Nat.le_of_ble_eq_true rfl, Nat.le_of_ble_eq_true rfl⟩) 0 6 rfl rfl hz rfl hl.1 rfl (Nat.le_of_ble_eq_true rfl) dX6_hopsNow_53 ⟨Nat.le_refl _, Nat.le_refl _⟩ (fun H locs hz => ?_)
      refine lv_istore (lv' := [(5, .int r9), (0, .ref (a 0)), (2, .int y2), (3, .int y3), (4, .int y4)]) hx hb dX6_hopsNow_56 hl (by decide) rfl (fun ls hl => ?_)
      refine lv_iload hx hb dX6_hopsNow_58 (lv_at hl 0 rfl) ?_
      refine lv_iconst (v := (-1 : Int32)) hx hb dX6_hopsNow_60 (by decide) ?_
      refine lv_icmp_ne (tgt := 66) hx hb dX6_hopsNow_61 (by decide) (fun c12 => ?_) (fun c12 => ?_)
      · replace h := ite_f c12 h
        refine lv_aload_n hx hb dX6_hopsNow_66 rfl (lv_at hl 1 rfl) ?_
        refine va_get (v := .ref (a 13)) hx hb hts inX6_hopsNow_X6 hown hKK.1 hz.1 0 rfl rfl 22 (by decide) (hts _ (List.mem_of_getElem? (i := 4) rfl)) (fun _ h9 => h9) rfl dX6_hopsNow_67 ?_
        refine lv_iload hx hb dX6_hopsNow_70 (lv_at hl 0 rfl) ?_
        obtain ⟨c13, h⟩ := ck_e h
        refine va_iald (f := (σ 13)) hx hb hKK.1 hz.1 13 0 rfl rfl c13 dX6_hopsNow_72 ?_
        refine lv_istore_n (lv' := [(3, .int ((σ 13) (Int32.toNatClampNeg r9))), (5, .int r9), (0, .ref (a 0)), (2, .int y2), (4, .int y4)]) hx hb dX6_hopsNow_73 rfl hl (by decide) rfl (fun ls hl => ?_)
        refine lv_iinc (v := (y4 + (1 : Int32))) (lv' := [(4, .int (y4 + (1 : Int32))), (3, .int ((σ 13) (Int32.toNatClampNeg r9))), (5, .int r9), (0, .ref (a 0)), (2, .int y2)]) hx hb dX6_hopsNow_74 hl (k := 4) rfl rfl (by decide) rfl (fun ls hl => ?_)
        refine lv_goto (tgt := 41) hx hb dX6_hopsNow_77 (by decide) ?_
        exact hk41 y2 ((σ 13) (Int32.toNatClampNeg r9)) (y4 + (1 : Int32)) _ _ _ h hz (lv_sub hl [3, 4, 1, 0] rfl)
      · replace h := ite_t c12 h
        refine lv_iconst (v := (-1 : Int32)) hx hb dX6_hopsNow_64 (by decide) ?_
        exact rt (-1 : Int32) σ 65 _ _ _ dX6_hopsNow_65 h hz
  have l41 : ∀  (n : Nat), ∀ (y2 : Int32) (y3 : Int32) (y4 : Int32) (H : Heap) (locs : List Loc) (ls : Array Slot), fX6_hopsNow_l41 σ  n y2 y3 y4 = some r → zz (dC, dI) 18 a (wdM cI cZ a hh σ) s.heap H locs → lv_has ls 6 [(0, .ref (a 0)), (2, .int y2), (3, .int y3), (4, .int y4)] → W p l e rmX6_hopsNow s m args below meth c H locs 0 0 Q (F0 m 41 ls []) := by
    intro  n
    induction n with
    | zero => intro y2 y3 y4 H locs ls h; exact nomatch h
    | succ n ih => exact s41  (fX6_hopsNow_l41 σ  n) ih
  unfold fX6_hopsNow at h
  refine lv_aload_n hx hb dX6_hopsNow_0 rfl (lv_at hl 0 rfl) ?_
  refine va_get (v := .ref (a 3)) hx hb hts inX6_hopsNow_X6 hown hKK.1 hz.1 0 rfl rfl 4 (by decide) (hts _ (List.mem_of_getElem? (i := 1) rfl)) (fun _ h9 => h9) rfl dX6_hopsNow_1 ?_
  refine lv_iload_n hx hb dX6_hopsNow_4 rfl (lv_at hl 1 rfl) ?_
  obtain ⟨c1, h⟩ := ck_e h
  refine va_iald (f := (σ 3)) hx hb hKK.1 hz.1 3 0 rfl rfl c1 dX6_hopsNow_5 ?_
  refine lv_istore_n (lv' := [(2, .int ((σ 3) (Int32.toNatClampNeg x1))), (0, .ref (a 0)), (1, .int x1)]) hx hb dX6_hopsNow_6 rfl hl (by decide) rfl (fun ls hl => ?_)
  refine lv_aload_n hx hb dX6_hopsNow_7 rfl (lv_at hl 1 rfl) ?_
  refine va_get (v := .ref (a 7)) hx hb hts inX6_hopsNow_X6 hown hKK.1 hz.1 0 rfl rfl 14 (by decide) (hts _ (List.mem_of_getElem? (i := 2) rfl)) (fun _ h9 => h9) rfl dX6_hopsNow_8 ?_
  refine lv_iload_n hx hb dX6_hopsNow_11 rfl (lv_at hl 2 rfl) ?_
  obtain ⟨c2, h⟩ := ck_e h
  refine va_zald (f := (σ 7)) hx hb hKK.1 hz.1 7 1 rfl rfl c2 dX6_hopsNow_12 ?_
  refine lv_if_ne (tgt := 31) hx hb dX6_hopsNow_13 (by decide) (fun c3 => ?_) (fun c3 => ?_)
  · replace h := ite_f c3 h
    refine lv_aload_n hx hb dX6_hopsNow_31 rfl (lv_at hl 1 rfl) ?_
    refine va_get (v := .ref (a 12)) hx hb hts inX6_hopsNow_X6 hown hKK.1 hz.1 0 rfl rfl 21 (by decide) (hts _ (List.mem_of_getElem? (i := 3) rfl)) (fun _ h9 => h9) rfl dX6_hopsNow_32 ?_
    refine lv_iload_n hx hb dX6_hopsNow_35 rfl (lv_at hl 2 rfl) ?_
    obtain ⟨c4, h⟩ := ck_e h
    refine va_iald (f := (σ 12)) hx hb hKK.1 hz.1 12 0 rfl rfl c4 dX6_hopsNow_36 ?_
    refine lv_istore_n (lv' := [(3, .int ((σ 12) (Int32.toNatClampNeg x1))), (2, .int ((σ 3) (Int32.toNatClampNeg x1))), (0, .ref (a 0)), (1, .int x1)]) hx hb dX6_hopsNow_37 rfl hl (by decide) rfl (fun ls hl => ?_)
    refine lv_iconst (v := (0 : Int32)) hx hb dX6_hopsNow_38 (by decide) ?_
    refine lv_istore (lv' := [(4, .int (0 : Int32)), (3, .int ((σ 12) (Int32.toNatClampNeg x1))), (2, .int ((σ 3) (Int32.toNatClampNeg x1))), (0, .ref (a 0)), (1, .int x1)]) hx hb dX6_hopsNow_39 hl (by decide) rfl (fun ls hl => ?_)
    exact l41  FU ((σ 3) (Int32.toNatClampNeg x1)) ((σ 12) (Int32.toNatClampNeg x1)) (0 : Int32) _ _ _ h hz (lv_sub hl [3, 2, 1, 0] rfl)
  · replace h := ite_t c3 h
    refine lv_aload_n hx hb dX6_hopsNow_16 rfl (lv_at hl 1 rfl) ?_
    refine lv_iload_n hx hb dX6_hopsNow_17 rfl (lv_at hl 2 rfl) ?_
    obtain ⟨r14, e16, h⟩ := bd1_e h
    refine zcallVi (As := [.int x1]) (rest := []) CF hKK (KX6_shortGoes (dC := dC) (dI := dI) (cI := cI) (cZ := cZ) (a := a) hok e16) (cwV 1 hts gX6_hopsNow_X6_shortGoes rfl rfl rfl cdX6_shortGoes ⟨Nat.le_of_ble_eq_true rfl, Nat.le_of_ble_eq_true rfl⟩) 0 6 rfl rfl hz rfl hl.1 rfl (Nat.le_of_ble_eq_true rfl) dX6_hopsNow_18 ⟨Nat.le_refl _, Nat.le_refl _⟩ (fun H locs hz => ?_)
    refine lv_iconst (v := (-1 : Int32)) hx hb dX6_hopsNow_21 (by decide) ?_
    refine lv_icmp_ne (tgt := 29) hx hb dX6_hopsNow_22 (by decide) (fun c17 => ?_) (fun c17 => ?_)
    · replace h := ite_f c17 h
      refine lv_iconst (v := (0 : Int32)) hx hb dX6_hopsNow_29 (by decide) ?_
      exact rt (0 : Int32) σ 30 _ _ _ dX6_hopsNow_30 h hz
    · replace h := ite_t c17 h
      refine lv_iconst (v := (-1 : Int32)) hx hb dX6_hopsNow_25 (by decide) ?_
      refine lv_goto (tgt := 30) hx hb dX6_hopsNow_26 (by decide) ?_
      exact rt (-1 : Int32) σ 30 _ _ _ dX6_hopsNow_30 h hz
def fX6_hops (σ : St) (x1 : Int32) : Option (Int32) :=
  (bd1 (fX6_isItem σ x1) fun r1 => (if r1 = 0 then (some (-1001 : Int32)) else ((ck (¬ (x1 < 0 ∨ 24 ≤ Int32.toNatClampNeg x1)) <| (if ((σ 2) (Int32.toNatClampNeg x1)) = (2 : Int32) then ((bd1 (fX6_hopsNow σ x1) fun r7 => some r7)) else (some (-1003 : Int32)))))))
abbrev rmX6_hops : Room := { frames := 3, cells := 0, slots := 0, locals := 72 }
set_option maxHeartbeats 4000000 in
set_option maxRecDepth 100000 in
theorem KX6_hops {l : Launch} {dC : Nat → ClassId} {dI : Nat → Nat → Nat} {cI cZ : ClassId} {a : Nat → Nat} {hh : Int64} {σ : St} {x1 : Int32} {r : Int32} (hok : okA 18 a) (h : fX6_hops σ x1 = some r) (sz : Nat) : Met l yX6_hops wsX6_hops rmX6_hops (Pz (dC, dI) cI cZ (wdM cI cZ a hh σ) sz [.ref (a 0), .int x1]) (Qzi (dC, dI) 18 a (wdM cI cZ a hh σ) sz r) 0 0 (aN 18 a sz) := by
  refine Met.ofW (cc := cX6_hops) (maxL := 2) (ret := (some .int)) (by decide) rfl ?_
  intro p e s m args below meth c s₁ B hml hv
  obtain ⟨hav, hsz, hP, hKK⟩ := hv
  have hx := B.exec
  have hb := B.bytes
  have hr := B.returns
  have hts := atoms_spec (ws := wsX6_hops) B.pre
  have hown : s.vm.findClass RX6 = some m.cls := findClass_of_methodNamed B.named
  have hlocks := B.notSynchronized
  have CF : CallFix p m c cX6_hops 2 s args wsX6_hops RX6 := ⟨hx, hb, hml, hown, hts⟩
  have hz : zz (dC, dI) 18 a (wdM cI cZ a hh σ) s.heap s.heap [] := ⟨hP, va_S.rf⟩
  have hl := lv_entry [.ref (a 0), .int x1] (n := 2) (Nat.le_of_ble_eq_true rfl)
  have hen : entryFrame m args 2 = entryFrame m ([.ref (a 0), .int x1] : List Value).toArray 2 := by rw [hav]
  rw [hen, lg_entry_eq]
  generalize (lg_sl [.ref (a 0), .int x1] ++ List.replicate (2 - (lg_sl [.ref (a 0), .int x1]).length) Slot.unset).toArray = ls at hl ⊢
  have hl : lv_has ls 2 [(0, .ref (a 0)), (1, .int x1)] := hl
  have eR : (headSpec wsX6_hops rmX6_hops).room = rmX6_hops := rfl
  rw [eR]
  have rt : ∀ (v : Int32) (t : St) (pc : Nat) (H : Heap) (locs : List Loc) (ls : Array Slot), decode cX6_hops pc = .ok (.ireturn, 1) → some v = some r → zz (dC, dI) 18 a (wdM cI cZ a hh σ) s.heap H locs → W p l e rmX6_hops s m args below meth c H locs 0 0 (MQ below (Qzi (dC, dI) 18 a (wdM cI cZ a hh σ) sz r) args s 0 0 (aN 18 a sz)) (F0 m pc ls [.int v]) := by
    intro v t pc H locs ls hd h hz
    cases h
    exact ziret hsz hx hb hr hlocks hz hd
  generalize (MQ below (Qzi (dC, dI) 18 a (wdM cI cZ a hh σ) sz r) args s 0 0 (aN 18 a sz)) = Q at rt ⊢
  unfold fX6_hops at h
  refine lv_aload_n hx hb dX6_hops_0 rfl (lv_at hl 0 rfl) ?_
  refine lv_iload_n hx hb dX6_hops_1 rfl (lv_at hl 1 rfl) ?_
  obtain ⟨r1, e3, h⟩ := bd1_e h
  refine zcallVi (As := [.int x1]) (rest := []) CF hKK (KX6_isItem (dC := dC) (dI := dI) (cI := cI) (cZ := cZ) (a := a) hok e3) (cwV 1 hts gX6_hops_X6_isItem rfl rfl rfl cdX6_isItem ⟨Nat.le_of_ble_eq_true rfl, Nat.le_of_ble_eq_true rfl⟩) 0 6 rfl rfl hz rfl hl.1 rfl (Nat.le_of_ble_eq_true rfl) dX6_hops_2 ⟨Nat.le_refl _, Nat.le_refl _⟩ (fun H locs hz => ?_)
  refine lv_if_ne (tgt := 12) hx hb dX6_hops_5 (by decide) (fun c4 => ?_) (fun c4 => ?_)
  · replace h := ite_f c4 h
    refine lv_aload_n hx hb dX6_hops_12 rfl (lv_at hl 0 rfl) ?_
    refine va_get (v := .ref (a 2)) hx hb hts inX6_hops_X6 hown hKK.1 hz.1 0 rfl rfl 3 (by decide) (hts _ (List.mem_of_getElem? (i := 1) rfl)) (fun _ h9 => h9) rfl dX6_hops_13 ?_
    refine lv_iload_n hx hb dX6_hops_16 rfl (lv_at hl 1 rfl) ?_
    obtain ⟨c5, h⟩ := ck_e h
    refine va_iald (f := (σ 2)) hx hb hKK.1 hz.1 2 0 rfl rfl c5 dX6_hops_17 ?_
    refine lv_iconst (v := (2 : Int32)) hx hb dX6_hops_18 (by decide) ?_
    refine lv_icmp_ne (tgt := 30) hx hb dX6_hops_19 (by decide) (fun c6 => ?_) (fun c6 => ?_)
    · replace h := ite_f c6 h
      refine lv_sipush (v := (-1003 : Int32)) hx hb dX6_hops_30 (by decide) ?_
      exact rt (-1003 : Int32) σ 33 _ _ _ dX6_hops_33 h hz
    · replace h := ite_t c6 h
      refine lv_aload_n hx hb dX6_hops_22 rfl (lv_at hl 0 rfl) ?_
      refine lv_iload_n hx hb dX6_hops_23 rfl (lv_at hl 1 rfl) ?_
      obtain ⟨r7, e9, h⟩ := bd1_e h
      refine zcallVi (As := [.int x1]) (rest := []) CF hKK (KX6_hopsNow (dC := dC) (dI := dI) (cI := cI) (cZ := cZ) (a := a) hok e9) (cwV 1 hts gX6_hops_X6_hopsNow rfl rfl rfl cdX6_hopsNow ⟨Nat.le_of_ble_eq_true rfl, Nat.le_of_ble_eq_true rfl⟩) 0 6 rfl rfl hz rfl hl.1 rfl (Nat.le_of_ble_eq_true rfl) dX6_hops_24 ⟨Nat.le_refl _, Nat.le_refl _⟩ (fun H locs hz => ?_)
      refine lv_goto (tgt := 33) hx hb dX6_hops_27 (by decide) ?_
      exact rt r7 σ 33 _ _ _ dX6_hops_33 h hz
  · replace h := ite_t c4 h
    refine lv_sipush (v := (-1001 : Int32)) hx hb dX6_hops_8 (by decide) ?_
    exact rt (-1001 : Int32) σ 11 _ _ _ dX6_hops_11 h hz
def fX6_longMany_s4 (σ : St) (k4 : Int32 → Int32 → Option (Int32)) (y1 : Int32) (y2 : Int32) : Option (Int32) :=
  (if (σ 41 0) ≤ y2 then (some y1) else ((ck (¬ (y2 < 0 ∨ 24 ≤ Int32.toNatClampNeg y2)) <| (if ((σ 7) (Int32.toNatClampNeg y2)) = 0 then (k4 (y1 + (0 : Int32)) (y2 + (1 : Int32))) else (k4 (y1 + (1 : Int32)) (y2 + (1 : Int32)))))))
def fX6_longMany_l4 (σ : St)  : Nat → Int32 → Int32 → Option (Int32) :=
  itr (fX6_longMany_s4 σ ) (fun _ _ => none)
def fX6_longMany (σ : St)  : Option (Int32) :=
  fX6_longMany_l4 σ  FU (0 : Int32) (0 : Int32)
abbrev rmX6_longMany : Room := { frames := 0, cells := 0, slots := 0, locals := 0 }
set_option maxHeartbeats 4000000 in
set_option maxRecDepth 100000 in
theorem KX6_longMany {l : Launch} {dC : Nat → ClassId} {dI : Nat → Nat → Nat} {cI cZ : ClassId} {a : Nat → Nat} {hh : Int64} {σ : St}  {r : Int32} (hok : okA 18 a) (h : fX6_longMany σ  = some r) (sz : Nat) : Met l yX6_longMany wsX6_longMany rmX6_longMany (Pz (dC, dI) cI cZ (wdM cI cZ a hh σ) sz [.ref (a 0)]) (Qzi (dC, dI) 18 a (wdM cI cZ a hh σ) sz r) 0 0 (aN 18 a sz) := by
  refine Met.ofW (cc := cX6_longMany) (maxL := 3) (ret := (some .int)) (by decide) rfl ?_
  intro p e s m args below meth c s₁ B hml hv
  obtain ⟨hav, hsz, hP, hKK⟩ := hv
  have hx := B.exec
  have hb := B.bytes
  have hr := B.returns
  have hts := atoms_spec (ws := wsX6_longMany) B.pre
  have hown : s.vm.findClass RX6 = some m.cls := findClass_of_methodNamed B.named
  have hlocks := B.notSynchronized
  have CF : CallFix p m c cX6_longMany 3 s args wsX6_longMany RX6 := ⟨hx, hb, hml, hown, hts⟩
  have hz : zz (dC, dI) 18 a (wdM cI cZ a hh σ) s.heap s.heap [] := ⟨hP, va_S.rf⟩
  have hl := lv_entry [.ref (a 0)] (n := 3) (Nat.le_of_ble_eq_true rfl)
  have hen : entryFrame m args 3 = entryFrame m ([.ref (a 0)] : List Value).toArray 3 := by rw [hav]
  rw [hen, lg_entry_eq]
  generalize (lg_sl [.ref (a 0)] ++ List.replicate (3 - (lg_sl [.ref (a 0)]).length) Slot.unset).toArray = ls at hl ⊢
  have hl : lv_has ls 3 [(0, .ref (a 0))] := hl
  have eR : (headSpec wsX6_longMany rmX6_longMany).room = rmX6_longMany := rfl
  rw [eR]
  have rt : ∀ (v : Int32) (t : St) (pc : Nat) (H : Heap) (locs : List Loc) (ls : Array Slot), decode cX6_longMany pc = .ok (.ireturn, 1) → some v = some r → zz (dC, dI) 18 a (wdM cI cZ a hh σ) s.heap H locs → W p l e rmX6_longMany s m args below meth c H locs 0 0 (MQ below (Qzi (dC, dI) 18 a (wdM cI cZ a hh σ) sz r) args s 0 0 (aN 18 a sz)) (F0 m pc ls [.int v]) := by
    intro v t pc H locs ls hd h hz
    cases h
    exact ziret hsz hx hb hr hlocks hz hd
  generalize (MQ below (Qzi (dC, dI) 18 a (wdM cI cZ a hh σ) sz r) args s 0 0 (aN 18 a sz)) = Q at rt ⊢
  have s4 : ∀ (k4 : Int32 → Int32 → Option (Int32)) (hk4 : (∀ (y1 : Int32) (y2 : Int32) (H : Heap) (locs : List Loc) (ls : Array Slot), k4 y1 y2 = some r → zz (dC, dI) 18 a (wdM cI cZ a hh σ) s.heap H locs → lv_has ls 3 [(0, .ref (a 0)), (1, .int y1), (2, .int y2)] → W p l e rmX6_longMany s m args below meth c H locs 0 0 Q (F0 m 4 ls []))) (y1 : Int32) (y2 : Int32) (H : Heap) (locs : List Loc) (ls : Array Slot), fX6_longMany_s4 σ k4 y1 y2 = some r → zz (dC, dI) 18 a (wdM cI cZ a hh σ) s.heap H locs → lv_has ls 3 [(0, .ref (a 0)), (1, .int y1), (2, .int y2)] → W p l e rmX6_longMany s m args below meth c H locs 0 0 Q (F0 m 4 ls []) := by
    intro k4 hk4 y1 y2 H locs ls h hz hl
    unfold fX6_longMany_s4 at h
    refine lv_iload_n hx hb dX6_longMany_4 rfl (lv_at hl 2 rfl) ?_
    refine lv_aload_n hx hb dX6_longMany_5 rfl (lv_at hl 0 rfl) ?_
    refine va_get (v := .int (σ 41 0)) hx hb hts inX6_longMany_X6 hown hKK.1 hz.1 0 rfl rfl 2 (by decide) (hts _ (List.mem_of_getElem? (i := 1) rfl)) (fun _ h9 => h9) rfl dX6_longMany_6 ?_
    refine lv_icmp_ge (tgt := 35) hx hb dX6_longMany_9 (by decide) (fun c1 => ?_) (fun c1 => ?_)
    · replace h := ite_t c1 h
      refine lv_iload_n hx hb dX6_longMany_35 rfl (lv_at hl 1 rfl) ?_
      exact rt y1 σ 36 _ _ _ dX6_longMany_36 h hz
    · replace h := ite_f c1 h
      refine lv_iload_n hx hb dX6_longMany_12 rfl (lv_at hl 1 rfl) ?_
      refine lv_aload_n hx hb dX6_longMany_13 rfl (lv_at hl 0 rfl) ?_
      refine va_get (v := .ref (a 7)) hx hb hts inX6_longMany_X6 hown hKK.1 hz.1 0 rfl rfl 14 (by decide) (hts _ (List.mem_of_getElem? (i := 2) rfl)) (fun _ h9 => h9) rfl dX6_longMany_14 ?_
      refine lv_iload_n hx hb dX6_longMany_17 rfl (lv_at hl 2 rfl) ?_
      obtain ⟨c2, h⟩ := ck_e h
      refine va_zald (f := (σ 7)) hx hb hKK.1 hz.1 7 1 rfl rfl c2 dX6_longMany_18 ?_
      refine lv_if_eq (tgt := 26) hx hb dX6_longMany_19 (by decide) (fun c3 => ?_) (fun c3 => ?_)
      · replace h := ite_t c3 h
        refine lv_iconst (v := (0 : Int32)) hx hb dX6_longMany_26 (by decide) ?_
        refine lv_iadd hx hb dX6_longMany_27 ?_
        refine lv_istore_n (lv' := [(1, .int (y1 + (0 : Int32))), (0, .ref (a 0)), (2, .int y2)]) hx hb dX6_longMany_28 rfl hl (by decide) rfl (fun ls hl => ?_)
        refine lv_iinc (v := (y2 + (1 : Int32))) (lv' := [(2, .int (y2 + (1 : Int32))), (1, .int (y1 + (0 : Int32))), (0, .ref (a 0))]) hx hb dX6_longMany_29 hl (k := 2) rfl rfl (by decide) rfl (fun ls hl => ?_)
        refine lv_goto (tgt := 4) hx hb dX6_longMany_32 (by decide) ?_
        exact hk4 (y1 + (0 : Int32)) (y2 + (1 : Int32)) _ _ _ h hz (lv_sub hl [2, 1, 0] rfl)
      · replace h := ite_f c3 h
        refine lv_iconst (v := (1 : Int32)) hx hb dX6_longMany_22 (by decide) ?_
        refine lv_goto (tgt := 27) hx hb dX6_longMany_23 (by decide) ?_
        refine lv_iadd hx hb dX6_longMany_27 ?_
        refine lv_istore_n (lv' := [(1, .int (y1 + (1 : Int32))), (0, .ref (a 0)), (2, .int y2)]) hx hb dX6_longMany_28 rfl hl (by decide) rfl (fun ls hl => ?_)
        refine lv_iinc (v := (y2 + (1 : Int32))) (lv' := [(2, .int (y2 + (1 : Int32))), (1, .int (y1 + (1 : Int32))), (0, .ref (a 0))]) hx hb dX6_longMany_29 hl (k := 2) rfl rfl (by decide) rfl (fun ls hl => ?_)
        refine lv_goto (tgt := 4) hx hb dX6_longMany_32 (by decide) ?_
        exact hk4 (y1 + (1 : Int32)) (y2 + (1 : Int32)) _ _ _ h hz (lv_sub hl [2, 1, 0] rfl)
  have l4 : ∀  (n : Nat), ∀ (y1 : Int32) (y2 : Int32) (H : Heap) (locs : List Loc) (ls : Array Slot), fX6_longMany_l4 σ  n y1 y2 = some r → zz (dC, dI) 18 a (wdM cI cZ a hh σ) s.heap H locs → lv_has ls 3 [(0, .ref (a 0)), (1, .int y1), (2, .int y2)] → W p l e rmX6_longMany s m args below meth c H locs 0 0 Q (F0 m 4 ls []) := by
    intro  n
    induction n with
    | zero => intro y1 y2 H locs ls h; exact nomatch h
    | succ n ih => exact s4  (fX6_longMany_l4 σ  n) ih
  unfold fX6_longMany at h
  refine lv_iconst (v := (0 : Int32)) hx hb dX6_longMany_0 (by decide) ?_
  refine lv_istore_n (lv' := [(1, .int (0 : Int32)), (0, .ref (a 0))]) hx hb dX6_longMany_1 rfl hl (by decide) rfl (fun ls hl => ?_)
  refine lv_iconst (v := (0 : Int32)) hx hb dX6_longMany_2 (by decide) ?_
  refine lv_istore_n (lv' := [(2, .int (0 : Int32)), (1, .int (0 : Int32)), (0, .ref (a 0))]) hx hb dX6_longMany_3 rfl hl (by decide) rfl (fun ls hl => ?_)
  exact l4  FU (0 : Int32) (0 : Int32) _ _ _ h hz (lv_sub hl [2, 1, 0] rfl)
def fX6_placedNow (σ : St) (x1 : Int32) : Option (Int32) :=
  (if x1 = (0 : Int32) then ((if (σ 53 0) = 0 then (some (0 : Int32)) else (some (1 : Int32)))) else (if x1 = (1 : Int32) then (some (σ 52 0)) else (if x1 = (2 : Int32) then ((if (σ 41 0) ≤ 0 then (some (0 : Int32)) else (some (σ 50 0)))) else (if x1 = (3 : Int32) then ((if (σ 41 0) ≤ 0 then (some (0 : Int32)) else (some (σ 51 0)))) else (if x1 = (4 : Int32) then (some (σ 54 0)) else (if x1 = (5 : Int32) then (some (σ 55 0)) else (if x1 = (6 : Int32) then (some (σ 48 0)) else (if x1 = (7 : Int32) then (some (σ 49 0)) else (bd1 (fX6_longMany σ ) fun r12 => some r12)))))))))
abbrev rmX6_placedNow : Room := { frames := 1, cells := 0, slots := 0, locals := 22 }
set_option maxHeartbeats 4000000 in
set_option maxRecDepth 100000 in
theorem KX6_placedNow {l : Launch} {dC : Nat → ClassId} {dI : Nat → Nat → Nat} {cI cZ : ClassId} {a : Nat → Nat} {hh : Int64} {σ : St} {x1 : Int32} {r : Int32} (hok : okA 18 a) (h : fX6_placedNow σ x1 = some r) (sz : Nat) : Met l yX6_placedNow wsX6_placedNow rmX6_placedNow (Pz (dC, dI) cI cZ (wdM cI cZ a hh σ) sz [.ref (a 0), .int x1]) (Qzi (dC, dI) 18 a (wdM cI cZ a hh σ) sz r) 0 0 (aN 18 a sz) := by
  refine Met.ofW (cc := cX6_placedNow) (maxL := 2) (ret := (some .int)) (by decide) rfl ?_
  intro p e s m args below meth c s₁ B hml hv
  obtain ⟨hav, hsz, hP, hKK⟩ := hv
  have hx := B.exec
  have hb := B.bytes
  have hr := B.returns
  have hts := atoms_spec (ws := wsX6_placedNow) B.pre
  have hown : s.vm.findClass RX6 = some m.cls := findClass_of_methodNamed B.named
  have hlocks := B.notSynchronized
  have CF : CallFix p m c cX6_placedNow 2 s args wsX6_placedNow RX6 := ⟨hx, hb, hml, hown, hts⟩
  have hz : zz (dC, dI) 18 a (wdM cI cZ a hh σ) s.heap s.heap [] := ⟨hP, va_S.rf⟩
  have hl := lv_entry [.ref (a 0), .int x1] (n := 2) (Nat.le_of_ble_eq_true rfl)
  have hen : entryFrame m args 2 = entryFrame m ([.ref (a 0), .int x1] : List Value).toArray 2 := by rw [hav]
  rw [hen, lg_entry_eq]
  generalize (lg_sl [.ref (a 0), .int x1] ++ List.replicate (2 - (lg_sl [.ref (a 0), .int x1]).length) Slot.unset).toArray = ls at hl ⊢
  have hl : lv_has ls 2 [(0, .ref (a 0)), (1, .int x1)] := hl
  have eR : (headSpec wsX6_placedNow rmX6_placedNow).room = rmX6_placedNow := rfl
  rw [eR]
  have rt : ∀ (v : Int32) (t : St) (pc : Nat) (H : Heap) (locs : List Loc) (ls : Array Slot), decode cX6_placedNow pc = .ok (.ireturn, 1) → some v = some r → zz (dC, dI) 18 a (wdM cI cZ a hh σ) s.heap H locs → W p l e rmX6_placedNow s m args below meth c H locs 0 0 (MQ below (Qzi (dC, dI) 18 a (wdM cI cZ a hh σ) sz r) args s 0 0 (aN 18 a sz)) (F0 m pc ls [.int v]) := by
    intro v t pc H locs ls hd h hz
    cases h
    exact ziret hsz hx hb hr hlocks hz hd
  generalize (MQ below (Qzi (dC, dI) 18 a (wdM cI cZ a hh σ) sz r) args s 0 0 (aN 18 a sz)) = Q at rt ⊢
  unfold fX6_placedNow at h
  refine lv_iload_n hx hb dX6_placedNow_0 rfl (lv_at hl 1 rfl) ?_
  by_cases c1 : x1 = (0 : Int32)
  · replace h := ite_t c1 h
    refine lv_tableIn (tgt := 48) (off := 47) hx hb dX6_placedNow_1 (by rw [c1]; decide) (by rw [c1]; decide) (by rw [c1]; rfl) (by decide) ?_
    refine lv_aload_n hx hb dX6_placedNow_48 rfl (lv_at hl 0 rfl) ?_
    refine va_get (v := .int (σ 53 0)) hx hb hts inX6_placedNow_X6 hown hKK.1 hz.1 0 rfl rfl 30 (by decide) (hts _ (List.mem_of_getElem? (i := 1) rfl)) (fun _ h9 => h9) rfl dX6_placedNow_49 ?_
    refine lv_if_eq (tgt := 59) hx hb dX6_placedNow_52 (by decide) (fun c2 => ?_) (fun c2 => ?_)
    · replace h := ite_t c2 h
      refine lv_iconst (v := (0 : Int32)) hx hb dX6_placedNow_59 (by decide) ?_
      exact rt (0 : Int32) σ 60 _ _ _ dX6_placedNow_60 h hz
    · replace h := ite_f c2 h
      refine lv_iconst (v := (1 : Int32)) hx hb dX6_placedNow_55 (by decide) ?_
      refine lv_goto (tgt := 60) hx hb dX6_placedNow_56 (by decide) ?_
      exact rt (1 : Int32) σ 60 _ _ _ dX6_placedNow_60 h hz
  replace h := ite_f c1 h
  by_cases c3 : x1 = (1 : Int32)
  · replace h := ite_t c3 h
    refine lv_tableIn (tgt := 61) (off := 60) hx hb dX6_placedNow_1 (by rw [c3]; decide) (by rw [c3]; decide) (by rw [c3]; rfl) (by decide) ?_
    refine lv_aload_n hx hb dX6_placedNow_61 rfl (lv_at hl 0 rfl) ?_
    refine va_get (v := .int (σ 52 0)) hx hb hts inX6_placedNow_X6 hown hKK.1 hz.1 0 rfl rfl 29 (by decide) (hts _ (List.mem_of_getElem? (i := 2) rfl)) (fun _ h9 => h9) rfl dX6_placedNow_62 ?_
    exact rt (σ 52 0) σ 65 _ _ _ dX6_placedNow_65 h hz
  replace h := ite_f c3 h
  by_cases c4 : x1 = (2 : Int32)
  · replace h := ite_t c4 h
    refine lv_tableIn (tgt := 66) (off := 65) hx hb dX6_placedNow_1 (by rw [c4]; decide) (by rw [c4]; decide) (by rw [c4]; rfl) (by decide) ?_
    refine lv_aload_n hx hb dX6_placedNow_66 rfl (lv_at hl 0 rfl) ?_
    refine va_get (v := .int (σ 41 0)) hx hb hts inX6_placedNow_X6 hown hKK.1 hz.1 0 rfl rfl 2 (by decide) (hts _ (List.mem_of_getElem? (i := 3) rfl)) (fun _ h9 => h9) rfl dX6_placedNow_67 ?_
    refine lv_if_le (tgt := 80) hx hb dX6_placedNow_70 (by decide) (fun c5 => ?_) (fun c5 => ?_)
    · replace h := ite_t c5 h
      refine lv_iconst (v := (0 : Int32)) hx hb dX6_placedNow_80 (by decide) ?_
      exact rt (0 : Int32) σ 81 _ _ _ dX6_placedNow_81 h hz
    · replace h := ite_f c5 h
      refine lv_aload_n hx hb dX6_placedNow_73 rfl (lv_at hl 0 rfl) ?_
      refine va_get (v := .int (σ 50 0)) hx hb hts inX6_placedNow_X6 hown hKK.1 hz.1 0 rfl rfl 27 (by decide) (hts _ (List.mem_of_getElem? (i := 4) rfl)) (fun _ h9 => h9) rfl dX6_placedNow_74 ?_
      refine lv_goto (tgt := 81) hx hb dX6_placedNow_77 (by decide) ?_
      exact rt (σ 50 0) σ 81 _ _ _ dX6_placedNow_81 h hz
  replace h := ite_f c4 h
  by_cases c6 : x1 = (3 : Int32)
  · replace h := ite_t c6 h
    refine lv_tableIn (tgt := 82) (off := 81) hx hb dX6_placedNow_1 (by rw [c6]; decide) (by rw [c6]; decide) (by rw [c6]; rfl) (by decide) ?_
    refine lv_aload_n hx hb dX6_placedNow_82 rfl (lv_at hl 0 rfl) ?_
    refine va_get (v := .int (σ 41 0)) hx hb hts inX6_placedNow_X6 hown hKK.1 hz.1 0 rfl rfl 2 (by decide) (hts _ (List.mem_of_getElem? (i := 3) rfl)) (fun _ h9 => h9) rfl dX6_placedNow_83 ?_
    refine lv_if_le (tgt := 96) hx hb dX6_placedNow_86 (by decide) (fun c7 => ?_) (fun c7 => ?_)
    · replace h := ite_t c7 h
      refine lv_iconst (v := (0 : Int32)) hx hb dX6_placedNow_96 (by decide) ?_
      exact rt (0 : Int32) σ 97 _ _ _ dX6_placedNow_97 h hz
    · replace h := ite_f c7 h
      refine lv_aload_n hx hb dX6_placedNow_89 rfl (lv_at hl 0 rfl) ?_
      refine va_get (v := .int (σ 51 0)) hx hb hts inX6_placedNow_X6 hown hKK.1 hz.1 0 rfl rfl 28 (by decide) (hts _ (List.mem_of_getElem? (i := 5) rfl)) (fun _ h9 => h9) rfl dX6_placedNow_90 ?_
      refine lv_goto (tgt := 97) hx hb dX6_placedNow_93 (by decide) ?_
      exact rt (σ 51 0) σ 97 _ _ _ dX6_placedNow_97 h hz
  replace h := ite_f c6 h
  by_cases c8 : x1 = (4 : Int32)
  · replace h := ite_t c8 h
    refine lv_tableIn (tgt := 98) (off := 97) hx hb dX6_placedNow_1 (by rw [c8]; decide) (by rw [c8]; decide) (by rw [c8]; rfl) (by decide) ?_
    refine lv_aload_n hx hb dX6_placedNow_98 rfl (lv_at hl 0 rfl) ?_
    refine va_get (v := .int (σ 54 0)) hx hb hts inX6_placedNow_X6 hown hKK.1 hz.1 0 rfl rfl 31 (by decide) (hts _ (List.mem_of_getElem? (i := 6) rfl)) (fun _ h9 => h9) rfl dX6_placedNow_99 ?_
    exact rt (σ 54 0) σ 102 _ _ _ dX6_placedNow_102 h hz
  replace h := ite_f c8 h
  by_cases c9 : x1 = (5 : Int32)
  · replace h := ite_t c9 h
    refine lv_tableIn (tgt := 103) (off := 102) hx hb dX6_placedNow_1 (by rw [c9]; decide) (by rw [c9]; decide) (by rw [c9]; rfl) (by decide) ?_
    refine lv_aload_n hx hb dX6_placedNow_103 rfl (lv_at hl 0 rfl) ?_
    refine va_get (v := .int (σ 55 0)) hx hb hts inX6_placedNow_X6 hown hKK.1 hz.1 0 rfl rfl 32 (by decide) (hts _ (List.mem_of_getElem? (i := 7) rfl)) (fun _ h9 => h9) rfl dX6_placedNow_104 ?_
    exact rt (σ 55 0) σ 107 _ _ _ dX6_placedNow_107 h hz
  replace h := ite_f c9 h
  by_cases c10 : x1 = (6 : Int32)
  · replace h := ite_t c10 h
    refine lv_tableIn (tgt := 108) (off := 107) hx hb dX6_placedNow_1 (by rw [c10]; decide) (by rw [c10]; decide) (by rw [c10]; rfl) (by decide) ?_
    refine lv_aload_n hx hb dX6_placedNow_108 rfl (lv_at hl 0 rfl) ?_
    refine va_get (v := .int (σ 48 0)) hx hb hts inX6_placedNow_X6 hown hKK.1 hz.1 0 rfl rfl 15 (by decide) (hts _ (List.mem_of_getElem? (i := 8) rfl)) (fun _ h9 => h9) rfl dX6_placedNow_109 ?_
    exact rt (σ 48 0) σ 112 _ _ _ dX6_placedNow_112 h hz
  replace h := ite_f c10 h
  by_cases c11 : x1 = (7 : Int32)
  · replace h := ite_t c11 h
    refine lv_tableIn (tgt := 113) (off := 112) hx hb dX6_placedNow_1 (by rw [c11]; decide) (by rw [c11]; decide) (by rw [c11]; rfl) (by decide) ?_
    refine lv_aload_n hx hb dX6_placedNow_113 rfl (lv_at hl 0 rfl) ?_
    refine va_get (v := .int (σ 49 0)) hx hb hts inX6_placedNow_X6 hown hKK.1 hz.1 0 rfl rfl 18 (by decide) (hts _ (List.mem_of_getElem? (i := 9) rfl)) (fun _ h9 => h9) rfl dX6_placedNow_114 ?_
    exact rt (σ 49 0) σ 117 _ _ _ dX6_placedNow_117 h hz
  replace h := ite_f c11 h
  refine lv_tableOut (tgt := 118) hx hb dX6_placedNow_1 (by have := lv_neT c1 (a := 0) rfl; have := lv_neT c3 (a := 1) rfl; have := lv_neT c4 (a := 2) rfl; have := lv_neT c6 (a := 3) rfl; have := lv_neT c8 (a := 4) rfl; have := lv_neT c9 (a := 5) rfl; have := lv_neT c10 (a := 6) rfl; have := lv_neT c11 (a := 7) rfl; omega) (by decide) ?_
  refine lv_aload_n hx hb dX6_placedNow_118 rfl (lv_at hl 0 rfl) ?_
  obtain ⟨r12, e14, h⟩ := bd1_e h
  refine zcallVi (As := []) (rest := []) CF hKK (KX6_longMany (dC := dC) (dI := dI) (cI := cI) (cZ := cZ) (a := a) hok e14) (cwV 0 hts gX6_placedNow_X6_longMany rfl rfl rfl cdX6_longMany ⟨Nat.le_of_ble_eq_true rfl, Nat.le_of_ble_eq_true rfl⟩) 0 6 rfl rfl hz rfl hl.1 rfl (Nat.le_of_ble_eq_true rfl) dX6_placedNow_119 ⟨Nat.le_refl _, Nat.le_refl _⟩ (fun H locs hz => ?_)
  exact rt r12 σ 122 _ _ _ dX6_placedNow_122 h hz
def fX6_placed (σ : St) (x1 : Int32) : Option (Int32) :=
  (bd1 (fX6_within σ x1 (0 : Int32) (8 : Int32)) fun r1 => (if r1 = 0 then (some (-1002 : Int32)) else ((bd1 (fX6_placedNow σ x1) fun r5 => some r5))))
abbrev rmX6_placed : Room := { frames := 2, cells := 0, slots := 0, locals := 43 }
set_option maxHeartbeats 4000000 in
set_option maxRecDepth 100000 in
theorem KX6_placed {l : Launch} {dC : Nat → ClassId} {dI : Nat → Nat → Nat} {cI cZ : ClassId} {a : Nat → Nat} {hh : Int64} {σ : St} {x1 : Int32} {r : Int32} (hok : okA 18 a) (h : fX6_placed σ x1 = some r) (sz : Nat) : Met l yX6_placed wsX6_placed rmX6_placed (Pz (dC, dI) cI cZ (wdM cI cZ a hh σ) sz [.ref (a 0), .int x1]) (Qzi (dC, dI) 18 a (wdM cI cZ a hh σ) sz r) 0 0 (aN 18 a sz) := by
  refine Met.ofW (cc := cX6_placed) (maxL := 2) (ret := (some .int)) (by decide) rfl ?_
  intro p e s m args below meth c s₁ B hml hv
  obtain ⟨hav, hsz, hP, hKK⟩ := hv
  have hx := B.exec
  have hb := B.bytes
  have hr := B.returns
  have hts := atoms_spec (ws := wsX6_placed) B.pre
  have hown : s.vm.findClass RX6 = some m.cls := findClass_of_methodNamed B.named
  have hlocks := B.notSynchronized
  have CF : CallFix p m c cX6_placed 2 s args wsX6_placed RX6 := ⟨hx, hb, hml, hown, hts⟩
  have hz : zz (dC, dI) 18 a (wdM cI cZ a hh σ) s.heap s.heap [] := ⟨hP, va_S.rf⟩
  have hl := lv_entry [.ref (a 0), .int x1] (n := 2) (Nat.le_of_ble_eq_true rfl)
  have hen : entryFrame m args 2 = entryFrame m ([.ref (a 0), .int x1] : List Value).toArray 2 := by rw [hav]
  rw [hen, lg_entry_eq]
  generalize (lg_sl [.ref (a 0), .int x1] ++ List.replicate (2 - (lg_sl [.ref (a 0), .int x1]).length) Slot.unset).toArray = ls at hl ⊢
  have hl : lv_has ls 2 [(0, .ref (a 0)), (1, .int x1)] := hl
  have eR : (headSpec wsX6_placed rmX6_placed).room = rmX6_placed := rfl
  rw [eR]
  have rt : ∀ (v : Int32) (t : St) (pc : Nat) (H : Heap) (locs : List Loc) (ls : Array Slot), decode cX6_placed pc = .ok (.ireturn, 1) → some v = some r → zz (dC, dI) 18 a (wdM cI cZ a hh σ) s.heap H locs → W p l e rmX6_placed s m args below meth c H locs 0 0 (MQ below (Qzi (dC, dI) 18 a (wdM cI cZ a hh σ) sz r) args s 0 0 (aN 18 a sz)) (F0 m pc ls [.int v]) := by
    intro v t pc H locs ls hd h hz
    cases h
    exact ziret hsz hx hb hr hlocks hz hd
  generalize (MQ below (Qzi (dC, dI) 18 a (wdM cI cZ a hh σ) sz r) args s 0 0 (aN 18 a sz)) = Q at rt ⊢
  unfold fX6_placed at h
  refine lv_iload_n hx hb dX6_placed_0 rfl (lv_at hl 1 rfl) ?_
  refine lv_iconst (v := (0 : Int32)) hx hb dX6_placed_1 (by decide) ?_
  refine lv_bipush (v := (8 : Int32)) hx hb dX6_placed_2 (by decide) ?_
  obtain ⟨r1, e3, h⟩ := bd1_e h
  refine zcallSi (As := [.int x1, .int (0 : Int32), .int (8 : Int32)]) (rest := []) CF hKK (KX6_within (dC := dC) (dI := dI) (cI := cI) (cZ := cZ) (a := a) hok e3) (va_cwS 3 hts gX6_placed_X6_within rfl rfl rfl cdX6_within.2 ⟨Nat.le_of_ble_eq_true rfl, Nat.le_of_ble_eq_true rfl⟩) hz rfl hl.1 rfl (Nat.le_of_ble_eq_true rfl) dX6_placed_4 ⟨Nat.le_refl _, Nat.le_refl _⟩ (fun H locs hz => ?_)
  refine lv_if_eq (tgt := 18) hx hb dX6_placed_7 (by decide) (fun c4 => ?_) (fun c4 => ?_)
  · replace h := ite_t c4 h
    refine lv_sipush (v := (-1002 : Int32)) hx hb dX6_placed_18 (by decide) ?_
    exact rt (-1002 : Int32) σ 21 _ _ _ dX6_placed_21 h hz
  · replace h := ite_f c4 h
    refine lv_aload_n hx hb dX6_placed_10 rfl (lv_at hl 0 rfl) ?_
    refine lv_iload_n hx hb dX6_placed_11 rfl (lv_at hl 1 rfl) ?_
    obtain ⟨r5, e7, h⟩ := bd1_e h
    refine zcallVi (As := [.int x1]) (rest := []) CF hKK (KX6_placedNow (dC := dC) (dI := dI) (cI := cI) (cZ := cZ) (a := a) hok e7) (cwV 1 hts gX6_placed_X6_placedNow rfl rfl rfl cdX6_placedNow ⟨Nat.le_of_ble_eq_true rfl, Nat.le_of_ble_eq_true rfl⟩) 0 6 rfl rfl hz rfl hl.1 rfl (Nat.le_of_ble_eq_true rfl) dX6_placed_12 ⟨Nat.le_refl _, Nat.le_refl _⟩ (fun H locs hz => ?_)
    refine lv_goto (tgt := 21) hx hb dX6_placed_15 (by decide) ?_
    exact rt r5 σ 21 _ _ _ dX6_placed_21 h hz
def fX6_gaps_s4 (σ : St) (k4 : Int32 → Int32 → Option (Int32)) (y1 : Int32) (y2 : Int32) : Option (Int32) :=
  (if (σ 41 0) ≤ y2 then (some y1) else ((ck (¬ (y2 < 0 ∨ 24 ≤ Int32.toNatClampNeg y2)) <| (if ((σ 2) (Int32.toNatClampNeg y2)) = (5 : Int32) then (k4 (y1 + (1 : Int32)) (y2 + (1 : Int32))) else (k4 (y1 + (0 : Int32)) (y2 + (1 : Int32)))))))
def fX6_gaps_l4 (σ : St)  : Nat → Int32 → Int32 → Option (Int32) :=
  itr (fX6_gaps_s4 σ ) (fun _ _ => none)
def fX6_gaps (σ : St)  : Option (Int32) :=
  fX6_gaps_l4 σ  FU (0 : Int32) (0 : Int32)
abbrev rmX6_gaps : Room := { frames := 0, cells := 0, slots := 0, locals := 0 }
set_option maxHeartbeats 4000000 in
set_option maxRecDepth 100000 in
theorem KX6_gaps {l : Launch} {dC : Nat → ClassId} {dI : Nat → Nat → Nat} {cI cZ : ClassId} {a : Nat → Nat} {hh : Int64} {σ : St}  {r : Int32} (hok : okA 18 a) (h : fX6_gaps σ  = some r) (sz : Nat) : Met l yX6_gaps wsX6_gaps rmX6_gaps (Pz (dC, dI) cI cZ (wdM cI cZ a hh σ) sz [.ref (a 0)]) (Qzi (dC, dI) 18 a (wdM cI cZ a hh σ) sz r) 0 0 (aN 18 a sz) := by
  refine Met.ofW (cc := cX6_gaps) (maxL := 3) (ret := (some .int)) (by decide) rfl ?_
  intro p e s m args below meth c s₁ B hml hv
  obtain ⟨hav, hsz, hP, hKK⟩ := hv
  have hx := B.exec
  have hb := B.bytes
  have hr := B.returns
  have hts := atoms_spec (ws := wsX6_gaps) B.pre
  have hown : s.vm.findClass RX6 = some m.cls := findClass_of_methodNamed B.named
  have hlocks := B.notSynchronized
  have CF : CallFix p m c cX6_gaps 3 s args wsX6_gaps RX6 := ⟨hx, hb, hml, hown, hts⟩
  have hz : zz (dC, dI) 18 a (wdM cI cZ a hh σ) s.heap s.heap [] := ⟨hP, va_S.rf⟩
  have hl := lv_entry [.ref (a 0)] (n := 3) (Nat.le_of_ble_eq_true rfl)
  have hen : entryFrame m args 3 = entryFrame m ([.ref (a 0)] : List Value).toArray 3 := by rw [hav]
  rw [hen, lg_entry_eq]
  generalize (lg_sl [.ref (a 0)] ++ List.replicate (3 - (lg_sl [.ref (a 0)]).length) Slot.unset).toArray = ls at hl ⊢
  have hl : lv_has ls 3 [(0, .ref (a 0))] := hl
  have eR : (headSpec wsX6_gaps rmX6_gaps).room = rmX6_gaps := rfl
  rw [eR]
  have rt : ∀ (v : Int32) (t : St) (pc : Nat) (H : Heap) (locs : List Loc) (ls : Array Slot), decode cX6_gaps pc = .ok (.ireturn, 1) → some v = some r → zz (dC, dI) 18 a (wdM cI cZ a hh σ) s.heap H locs → W p l e rmX6_gaps s m args below meth c H locs 0 0 (MQ below (Qzi (dC, dI) 18 a (wdM cI cZ a hh σ) sz r) args s 0 0 (aN 18 a sz)) (F0 m pc ls [.int v]) := by
    intro v t pc H locs ls hd h hz
    cases h
    exact ziret hsz hx hb hr hlocks hz hd
  generalize (MQ below (Qzi (dC, dI) 18 a (wdM cI cZ a hh σ) sz r) args s 0 0 (aN 18 a sz)) = Q at rt ⊢
  have s4 : ∀ (k4 : Int32 → Int32 → Option (Int32)) (hk4 : (∀ (y1 : Int32) (y2 : Int32) (H : Heap) (locs : List Loc) (ls : Array Slot), k4 y1 y2 = some r → zz (dC, dI) 18 a (wdM cI cZ a hh σ) s.heap H locs → lv_has ls 3 [(0, .ref (a 0)), (1, .int y1), (2, .int y2)] → W p l e rmX6_gaps s m args below meth c H locs 0 0 Q (F0 m 4 ls []))) (y1 : Int32) (y2 : Int32) (H : Heap) (locs : List Loc) (ls : Array Slot), fX6_gaps_s4 σ k4 y1 y2 = some r → zz (dC, dI) 18 a (wdM cI cZ a hh σ) s.heap H locs → lv_has ls 3 [(0, .ref (a 0)), (1, .int y1), (2, .int y2)] → W p l e rmX6_gaps s m args below meth c H locs 0 0 Q (F0 m 4 ls []) := by
    intro k4 hk4 y1 y2 H locs ls h hz hl
    unfold fX6_gaps_s4 at h
    refine lv_iload_n hx hb dX6_gaps_4 rfl (lv_at hl 2 rfl) ?_
    refine lv_aload_n hx hb dX6_gaps_5 rfl (lv_at hl 0 rfl) ?_
    refine va_get (v := .int (σ 41 0)) hx hb hts inX6_gaps_X6 hown hKK.1 hz.1 0 rfl rfl 2 (by decide) (hts _ (List.mem_of_getElem? (i := 1) rfl)) (fun _ h9 => h9) rfl dX6_gaps_6 ?_
    refine lv_icmp_ge (tgt := 36) hx hb dX6_gaps_9 (by decide) (fun c1 => ?_) (fun c1 => ?_)
    · replace h := ite_t c1 h
      refine lv_iload_n hx hb dX6_gaps_36 rfl (lv_at hl 1 rfl) ?_
      exact rt y1 σ 37 _ _ _ dX6_gaps_37 h hz
    · replace h := ite_f c1 h
      refine lv_iload_n hx hb dX6_gaps_12 rfl (lv_at hl 1 rfl) ?_
      refine lv_aload_n hx hb dX6_gaps_13 rfl (lv_at hl 0 rfl) ?_
      refine va_get (v := .ref (a 2)) hx hb hts inX6_gaps_X6 hown hKK.1 hz.1 0 rfl rfl 3 (by decide) (hts _ (List.mem_of_getElem? (i := 2) rfl)) (fun _ h9 => h9) rfl dX6_gaps_14 ?_
      refine lv_iload_n hx hb dX6_gaps_17 rfl (lv_at hl 2 rfl) ?_
      obtain ⟨c2, h⟩ := ck_e h
      refine va_iald (f := (σ 2)) hx hb hKK.1 hz.1 2 0 rfl rfl c2 dX6_gaps_18 ?_
      refine lv_iconst (v := (5 : Int32)) hx hb dX6_gaps_19 (by decide) ?_
      refine lv_icmp_ne (tgt := 27) hx hb dX6_gaps_20 (by decide) (fun c3 => ?_) (fun c3 => ?_)
      · replace h := ite_f c3 h
        refine lv_iconst (v := (0 : Int32)) hx hb dX6_gaps_27 (by decide) ?_
        refine lv_iadd hx hb dX6_gaps_28 ?_
        refine lv_istore_n (lv' := [(1, .int (y1 + (0 : Int32))), (0, .ref (a 0)), (2, .int y2)]) hx hb dX6_gaps_29 rfl hl (by decide) rfl (fun ls hl => ?_)
        refine lv_iinc (v := (y2 + (1 : Int32))) (lv' := [(2, .int (y2 + (1 : Int32))), (1, .int (y1 + (0 : Int32))), (0, .ref (a 0))]) hx hb dX6_gaps_30 hl (k := 2) rfl rfl (by decide) rfl (fun ls hl => ?_)
        refine lv_goto (tgt := 4) hx hb dX6_gaps_33 (by decide) ?_
        exact hk4 (y1 + (0 : Int32)) (y2 + (1 : Int32)) _ _ _ h hz (lv_sub hl [2, 1, 0] rfl)
      · replace h := ite_t c3 h
        refine lv_iconst (v := (1 : Int32)) hx hb dX6_gaps_23 (by decide) ?_
        refine lv_goto (tgt := 28) hx hb dX6_gaps_24 (by decide) ?_
        refine lv_iadd hx hb dX6_gaps_28 ?_
        refine lv_istore_n (lv' := [(1, .int (y1 + (1 : Int32))), (0, .ref (a 0)), (2, .int y2)]) hx hb dX6_gaps_29 rfl hl (by decide) rfl (fun ls hl => ?_)
        refine lv_iinc (v := (y2 + (1 : Int32))) (lv' := [(2, .int (y2 + (1 : Int32))), (1, .int (y1 + (1 : Int32))), (0, .ref (a 0))]) hx hb dX6_gaps_30 hl (k := 2) rfl rfl (by decide) rfl (fun ls hl => ?_)
        refine lv_goto (tgt := 4) hx hb dX6_gaps_33 (by decide) ?_
        exact hk4 (y1 + (1 : Int32)) (y2 + (1 : Int32)) _ _ _ h hz (lv_sub hl [2, 1, 0] rfl)
  have l4 : ∀  (n : Nat), ∀ (y1 : Int32) (y2 : Int32) (H : Heap) (locs : List Loc) (ls : Array Slot), fX6_gaps_l4 σ  n y1 y2 = some r → zz (dC, dI) 18 a (wdM cI cZ a hh σ) s.heap H locs → lv_has ls 3 [(0, .ref (a 0)), (1, .int y1), (2, .int y2)] → W p l e rmX6_gaps s m args below meth c H locs 0 0 Q (F0 m 4 ls []) := by
    intro  n
    induction n with
    | zero => intro y1 y2 H locs ls h; exact nomatch h
    | succ n ih => exact s4  (fX6_gaps_l4 σ  n) ih
  unfold fX6_gaps at h
  refine lv_iconst (v := (0 : Int32)) hx hb dX6_gaps_0 (by decide) ?_
  refine lv_istore_n (lv' := [(1, .int (0 : Int32)), (0, .ref (a 0))]) hx hb dX6_gaps_1 rfl hl (by decide) rfl (fun ls hl => ?_)
  refine lv_iconst (v := (0 : Int32)) hx hb dX6_gaps_2 (by decide) ?_
  refine lv_istore_n (lv' := [(2, .int (0 : Int32)), (1, .int (0 : Int32)), (0, .ref (a 0))]) hx hb dX6_gaps_3 rfl hl (by decide) rfl (fun ls hl => ?_)
  exact l4  FU (0 : Int32) (0 : Int32) _ _ _ h hz (lv_sub hl [2, 1, 0] rfl)
def fX6_howMany_b63 (σ : St)  (y1 : Int32) : Option (Int32) :=
  (ck (¬ ((y1 - (3 : Int32)) < 0 ∨ 3 ≤ Int32.toNatClampNeg (y1 - (3 : Int32)))) <| some ((σ 4) (Int32.toNatClampNeg (y1 - (3 : Int32)))))
def fX6_howMany (σ : St) (x1 : Int32) : Option (Int32) :=
  (if x1 = (0 : Int32) then (some (σ 41 0)) else (if x1 = (1 : Int32) then (some (σ 40 0)) else (if x1 = (2 : Int32) then ((bd1 (fX6_gaps σ ) fun r4 => some r4)) else (if x1 = (3 : Int32) then (fX6_howMany_b63 σ  x1) else (if x1 = (4 : Int32) then (fX6_howMany_b63 σ  x1) else (if x1 = (5 : Int32) then (fX6_howMany_b63 σ  x1) else (if x1 = (6 : Int32) then (some (σ 42 0)) else (if x1 = (7 : Int32) then (some (σ 43 0)) else some (-1002 : Int32)))))))))
abbrev rmX6_howMany : Room := { frames := 1, cells := 0, slots := 0, locals := 22 }
set_option maxHeartbeats 4000000 in
set_option maxRecDepth 100000 in
theorem KX6_howMany {l : Launch} {dC : Nat → ClassId} {dI : Nat → Nat → Nat} {cI cZ : ClassId} {a : Nat → Nat} {hh : Int64} {σ : St} {x1 : Int32} {r : Int32} (hok : okA 18 a) (h : fX6_howMany σ x1 = some r) (sz : Nat) : Met l yX6_howMany wsX6_howMany rmX6_howMany (Pz (dC, dI) cI cZ (wdM cI cZ a hh σ) sz [.ref (a 0), .int x1]) (Qzi (dC, dI) 18 a (wdM cI cZ a hh σ) sz r) 0 0 (aN 18 a sz) := by
  refine Met.ofW (cc := cX6_howMany) (maxL := 2) (ret := (some .int)) (by decide) rfl ?_
  intro p e s m args below meth c s₁ B hml hv
  obtain ⟨hav, hsz, hP, hKK⟩ := hv
  have hx := B.exec
  have hb := B.bytes
  have hr := B.returns
  have hts := atoms_spec (ws := wsX6_howMany) B.pre
  have hown : s.vm.findClass RX6 = some m.cls := findClass_of_methodNamed B.named
  have hlocks := B.notSynchronized
  have CF : CallFix p m c cX6_howMany 2 s args wsX6_howMany RX6 := ⟨hx, hb, hml, hown, hts⟩
  have hz : zz (dC, dI) 18 a (wdM cI cZ a hh σ) s.heap s.heap [] := ⟨hP, va_S.rf⟩
  have hl := lv_entry [.ref (a 0), .int x1] (n := 2) (Nat.le_of_ble_eq_true rfl)
  have hen : entryFrame m args 2 = entryFrame m ([.ref (a 0), .int x1] : List Value).toArray 2 := by rw [hav]
  rw [hen, lg_entry_eq]
  generalize (lg_sl [.ref (a 0), .int x1] ++ List.replicate (2 - (lg_sl [.ref (a 0), .int x1]).length) Slot.unset).toArray = ls at hl ⊢
  have hl : lv_has ls 2 [(0, .ref (a 0)), (1, .int x1)] := hl
  have eR : (headSpec wsX6_howMany rmX6_howMany).room = rmX6_howMany := rfl
  rw [eR]
  have rt : ∀ (v : Int32) (t : St) (pc : Nat) (H : Heap) (locs : List Loc) (ls : Array Slot), decode cX6_howMany pc = .ok (.ireturn, 1) → some v = some r → zz (dC, dI) 18 a (wdM cI cZ a hh σ) s.heap H locs → W p l e rmX6_howMany s m args below meth c H locs 0 0 (MQ below (Qzi (dC, dI) 18 a (wdM cI cZ a hh σ) sz r) args s 0 0 (aN 18 a sz)) (F0 m pc ls [.int v]) := by
    intro v t pc H locs ls hd h hz
    cases h
    exact ziret hsz hx hb hr hlocks hz hd
  generalize (MQ below (Qzi (dC, dI) 18 a (wdM cI cZ a hh σ) sz r) args s 0 0 (aN 18 a sz)) = Q at rt ⊢
  have b63 : ∀  (y1 : Int32) (H : Heap) (locs : List Loc) (ls : Array Slot), fX6_howMany_b63 σ  y1 = some r → zz (dC, dI) 18 a (wdM cI cZ a hh σ) s.heap H locs → lv_has ls 2 [(0, .ref (a 0)), (1, .int y1)] → W p l e rmX6_howMany s m args below meth c H locs 0 0 Q (F0 m 63 ls []) := by
    intro  y1 H locs ls h hz hl
    unfold fX6_howMany_b63 at h
    refine lv_aload_n hx hb dX6_howMany_63 rfl (lv_at hl 0 rfl) ?_
    refine va_get (v := .ref (a 4)) hx hb hts inX6_howMany_X6 hown hKK.1 hz.1 0 rfl rfl 7 (by decide) (hts _ (List.mem_of_getElem? (i := 3) rfl)) (fun _ h9 => h9) rfl dX6_howMany_64 ?_
    refine lv_iload_n hx hb dX6_howMany_67 rfl (lv_at hl 1 rfl) ?_
    refine lv_iconst (v := (3 : Int32)) hx hb dX6_howMany_68 (by decide) ?_
    refine lv_isub hx hb dX6_howMany_69 ?_
    obtain ⟨c8, h⟩ := ck_e h
    refine va_iald (f := (σ 4)) hx hb hKK.1 hz.1 4 0 rfl rfl c8 dX6_howMany_70 ?_
    exact rt ((σ 4) (Int32.toNatClampNeg (y1 - (3 : Int32)))) σ 71 _ _ _ dX6_howMany_71 h hz
  unfold fX6_howMany at h
  refine lv_iload_n hx hb dX6_howMany_0 rfl (lv_at hl 1 rfl) ?_
  by_cases c1 : x1 = (0 : Int32)
  · replace h := ite_t c1 h
    refine lv_tableIn (tgt := 48) (off := 47) hx hb dX6_howMany_1 (by rw [c1]; decide) (by rw [c1]; decide) (by rw [c1]; rfl) (by decide) ?_
    refine lv_aload_n hx hb dX6_howMany_48 rfl (lv_at hl 0 rfl) ?_
    refine va_get (v := .int (σ 41 0)) hx hb hts inX6_howMany_X6 hown hKK.1 hz.1 0 rfl rfl 2 (by decide) (hts _ (List.mem_of_getElem? (i := 1) rfl)) (fun _ h9 => h9) rfl dX6_howMany_49 ?_
    exact rt (σ 41 0) σ 52 _ _ _ dX6_howMany_52 h hz
  replace h := ite_f c1 h
  by_cases c2 : x1 = (1 : Int32)
  · replace h := ite_t c2 h
    refine lv_tableIn (tgt := 53) (off := 52) hx hb dX6_howMany_1 (by rw [c2]; decide) (by rw [c2]; decide) (by rw [c2]; rfl) (by decide) ?_
    refine lv_aload_n hx hb dX6_howMany_53 rfl (lv_at hl 0 rfl) ?_
    refine va_get (v := .int (σ 40 0)) hx hb hts inX6_howMany_X6 hown hKK.1 hz.1 0 rfl rfl 0 (by decide) (hts _ (List.mem_of_getElem? (i := 2) rfl)) (fun _ h9 => h9) rfl dX6_howMany_54 ?_
    exact rt (σ 40 0) σ 57 _ _ _ dX6_howMany_57 h hz
  replace h := ite_f c2 h
  by_cases c3 : x1 = (2 : Int32)
  · replace h := ite_t c3 h
    refine lv_tableIn (tgt := 58) (off := 57) hx hb dX6_howMany_1 (by rw [c3]; decide) (by rw [c3]; decide) (by rw [c3]; rfl) (by decide) ?_
    refine lv_aload_n hx hb dX6_howMany_58 rfl (lv_at hl 0 rfl) ?_
    obtain ⟨r4, e6, h⟩ := bd1_e h
    refine zcallVi (As := []) (rest := []) CF hKK (KX6_gaps (dC := dC) (dI := dI) (cI := cI) (cZ := cZ) (a := a) hok e6) (cwV 0 hts gX6_howMany_X6_gaps rfl rfl rfl cdX6_gaps ⟨Nat.le_of_ble_eq_true rfl, Nat.le_of_ble_eq_true rfl⟩) 0 6 rfl rfl hz rfl hl.1 rfl (Nat.le_of_ble_eq_true rfl) dX6_howMany_59 ⟨Nat.le_refl _, Nat.le_refl _⟩ (fun H locs hz => ?_)
    exact rt r4 σ 62 _ _ _ dX6_howMany_62 h hz
  replace h := ite_f c3 h
  by_cases c7 : x1 = (3 : Int32)
  · replace h := ite_t c7 h
    refine lv_tableIn (tgt := 63) (off := 62) hx hb dX6_howMany_1 (by rw [c7]; decide) (by rw [c7]; decide) (by rw [c7]; rfl) (by decide) ?_
    exact b63  x1 _ _ _ h hz (lv_sub hl [0, 1] rfl)
  replace h := ite_f c7 h
  by_cases c9 : x1 = (4 : Int32)
  · replace h := ite_t c9 h
    refine lv_tableIn (tgt := 63) (off := 62) hx hb dX6_howMany_1 (by rw [c9]; decide) (by rw [c9]; decide) (by rw [c9]; rfl) (by decide) ?_
    exact b63  x1 _ _ _ h hz (lv_sub hl [0, 1] rfl)
  replace h := ite_f c9 h
  by_cases c10 : x1 = (5 : Int32)
  · replace h := ite_t c10 h
    refine lv_tableIn (tgt := 63) (off := 62) hx hb dX6_howMany_1 (by rw [c10]; decide) (by rw [c10]; decide) (by rw [c10]; rfl) (by decide) ?_
    exact b63  x1 _ _ _ h hz (lv_sub hl [0, 1] rfl)
  replace h := ite_f c10 h
  by_cases c11 : x1 = (6 : Int32)
  · replace h := ite_t c11 h
    refine lv_tableIn (tgt := 72) (off := 71) hx hb dX6_howMany_1 (by rw [c11]; decide) (by rw [c11]; decide) (by rw [c11]; rfl) (by decide) ?_
    refine lv_aload_n hx hb dX6_howMany_72 rfl (lv_at hl 0 rfl) ?_
    refine va_get (v := .int (σ 42 0)) hx hb hts inX6_howMany_X6 hown hKK.1 hz.1 0 rfl rfl 5 (by decide) (hts _ (List.mem_of_getElem? (i := 4) rfl)) (fun _ h9 => h9) rfl dX6_howMany_73 ?_
    exact rt (σ 42 0) σ 76 _ _ _ dX6_howMany_76 h hz
  replace h := ite_f c11 h
  by_cases c12 : x1 = (7 : Int32)
  · replace h := ite_t c12 h
    refine lv_tableIn (tgt := 77) (off := 76) hx hb dX6_howMany_1 (by rw [c12]; decide) (by rw [c12]; decide) (by rw [c12]; rfl) (by decide) ?_
    refine lv_aload_n hx hb dX6_howMany_77 rfl (lv_at hl 0 rfl) ?_
    refine va_get (v := .int (σ 43 0)) hx hb hts inX6_howMany_X6 hown hKK.1 hz.1 0 rfl rfl 6 (by decide) (hts _ (List.mem_of_getElem? (i := 5) rfl)) (fun _ h9 => h9) rfl dX6_howMany_78 ?_
    exact rt (σ 43 0) σ 81 _ _ _ dX6_howMany_81 h hz
  replace h := ite_f c12 h
  refine lv_tableOut (tgt := 82) hx hb dX6_howMany_1 (by have := lv_neT c1 (a := 0) rfl; have := lv_neT c2 (a := 1) rfl; have := lv_neT c3 (a := 2) rfl; have := lv_neT c7 (a := 3) rfl; have := lv_neT c9 (a := 4) rfl; have := lv_neT c10 (a := 5) rfl; have := lv_neT c11 (a := 6) rfl; have := lv_neT c12 (a := 7) rfl; omega) (by decide) ?_
  refine lv_sipush (v := (-1002 : Int32)) hx hb dX6_howMany_82 (by decide) ?_
  exact rt (-1002 : Int32) σ 85 _ _ _ dX6_howMany_85 h hz
def fX6_count (σ : St) (x1 : Int32) : Option (Int32) :=
  (bd1 (fX6_howMany σ x1) fun r1 => some r1)
abbrev rmX6_count : Room := { frames := 2, cells := 0, slots := 0, locals := 43 }
set_option maxHeartbeats 4000000 in
set_option maxRecDepth 100000 in
theorem KX6_count {l : Launch} {dC : Nat → ClassId} {dI : Nat → Nat → Nat} {cI cZ : ClassId} {a : Nat → Nat} {hh : Int64} {σ : St} {x1 : Int32} {r : Int32} (hok : okA 18 a) (h : fX6_count σ x1 = some r) (sz : Nat) : Met l yX6_count wsX6_count rmX6_count (Pz (dC, dI) cI cZ (wdM cI cZ a hh σ) sz [.ref (a 0), .int x1]) (Qzi (dC, dI) 18 a (wdM cI cZ a hh σ) sz r) 0 0 (aN 18 a sz) := by
  refine Met.ofW (cc := cX6_count) (maxL := 2) (ret := (some .int)) (by decide) rfl ?_
  intro p e s m args below meth c s₁ B hml hv
  obtain ⟨hav, hsz, hP, hKK⟩ := hv
  have hx := B.exec
  have hb := B.bytes
  have hr := B.returns
  have hts := atoms_spec (ws := wsX6_count) B.pre
  have hown : s.vm.findClass RX6 = some m.cls := findClass_of_methodNamed B.named
  have hlocks := B.notSynchronized
  have CF : CallFix p m c cX6_count 2 s args wsX6_count RX6 := ⟨hx, hb, hml, hown, hts⟩
  have hz : zz (dC, dI) 18 a (wdM cI cZ a hh σ) s.heap s.heap [] := ⟨hP, va_S.rf⟩
  have hl := lv_entry [.ref (a 0), .int x1] (n := 2) (Nat.le_of_ble_eq_true rfl)
  have hen : entryFrame m args 2 = entryFrame m ([.ref (a 0), .int x1] : List Value).toArray 2 := by rw [hav]
  rw [hen, lg_entry_eq]
  generalize (lg_sl [.ref (a 0), .int x1] ++ List.replicate (2 - (lg_sl [.ref (a 0), .int x1]).length) Slot.unset).toArray = ls at hl ⊢
  have hl : lv_has ls 2 [(0, .ref (a 0)), (1, .int x1)] := hl
  have eR : (headSpec wsX6_count rmX6_count).room = rmX6_count := rfl
  rw [eR]
  have rt : ∀ (v : Int32) (t : St) (pc : Nat) (H : Heap) (locs : List Loc) (ls : Array Slot), decode cX6_count pc = .ok (.ireturn, 1) → some v = some r → zz (dC, dI) 18 a (wdM cI cZ a hh σ) s.heap H locs → W p l e rmX6_count s m args below meth c H locs 0 0 (MQ below (Qzi (dC, dI) 18 a (wdM cI cZ a hh σ) sz r) args s 0 0 (aN 18 a sz)) (F0 m pc ls [.int v]) := by
    intro v t pc H locs ls hd h hz
    cases h
    exact ziret hsz hx hb hr hlocks hz hd
  generalize (MQ below (Qzi (dC, dI) 18 a (wdM cI cZ a hh σ) sz r) args s 0 0 (aN 18 a sz)) = Q at rt ⊢
  unfold fX6_count at h
  refine lv_aload_n hx hb dX6_count_0 rfl (lv_at hl 0 rfl) ?_
  refine lv_iload_n hx hb dX6_count_1 rfl (lv_at hl 1 rfl) ?_
  obtain ⟨r1, e3, h⟩ := bd1_e h
  refine zcallVi (As := [.int x1]) (rest := []) CF hKK (KX6_howMany (dC := dC) (dI := dI) (cI := cI) (cZ := cZ) (a := a) hok e3) (cwV 1 hts gX6_count_X6_howMany rfl rfl rfl cdX6_howMany ⟨Nat.le_of_ble_eq_true rfl, Nat.le_of_ble_eq_true rfl⟩) 0 6 rfl rfl hz rfl hl.1 rfl (Nat.le_of_ble_eq_true rfl) dX6_count_2 ⟨Nat.le_refl _, Nat.le_refl _⟩ (fun H locs hz => ?_)
  exact rt r1 σ 5 _ _ _ dX6_count_5 h hz
def fX6_mix (σ : St) (hh : Int64) (x1 : Int64) : Option (Int64) :=
  some (((31 : Int64) * hh) + x1)
abbrev rmX6_mix : Room := { frames := 0, cells := 0, slots := 0, locals := 0 }
set_option maxHeartbeats 4000000 in
set_option maxRecDepth 100000 in
theorem KX6_mix {l : Launch} {dC : Nat → ClassId} {dI : Nat → Nat → Nat} {cI cZ : ClassId} {a : Nat → Nat} {hh : Int64} {σ : St} {x1 : Int64} {h2 : Int64} (hok : okA 18 a) (h : fX6_mix σ hh x1 = some h2) (sz : Nat) : Met l yX6_mix wsX6_mix rmX6_mix (Pz (dC, dI) cI cZ (wdM cI cZ a hh σ) sz [.ref (a 0), .long x1]) (Qzv (dC, dI) 18 a (wdM cI cZ a h2 σ) sz) 0 0 (aN 18 a sz) := by
  refine Met.ofW (cc := cX6_mix) (maxL := 3) (ret := none) (by decide) rfl ?_
  intro p e s m args below meth c s₁ B hml hv
  obtain ⟨hav, hsz, hP, hKK⟩ := hv
  have hx := B.exec
  have hb := B.bytes
  have hr := B.returns
  have hts := atoms_spec (ws := wsX6_mix) B.pre
  have hown : s.vm.findClass RX6 = some m.cls := findClass_of_methodNamed B.named
  have hlocks := B.notSynchronized
  have CF : CallFix p m c cX6_mix 3 s args wsX6_mix RX6 := ⟨hx, hb, hml, hown, hts⟩
  have hz : zz (dC, dI) 18 a (wdM cI cZ a hh σ) s.heap s.heap [] := ⟨hP, va_S.rf⟩
  have hl := lv_entry [.ref (a 0), .long x1] (n := 3) (Nat.le_of_ble_eq_true rfl)
  have hen : entryFrame m args 3 = entryFrame m ([.ref (a 0), .long x1] : List Value).toArray 3 := by rw [hav]
  rw [hen, lg_entry_eq]
  generalize (lg_sl [.ref (a 0), .long x1] ++ List.replicate (3 - (lg_sl [.ref (a 0), .long x1]).length) Slot.unset).toArray = ls at hl ⊢
  have hl : lv_has ls 3 [(0, .ref (a 0)), (1, .long x1)] := hl
  have eR : (headSpec wsX6_mix rmX6_mix).room = rmX6_mix := rfl
  rw [eR]
  have rt : ∀ (t : Int64) (pc : Nat) (H : Heap) (locs : List Loc) (ls : Array Slot), decode cX6_mix pc = .ok (.return_, 1) → some t = some h2 → zz (dC, dI) 18 a (wdM cI cZ a t σ) s.heap H locs → W p l e rmX6_mix s m args below meth c H locs 0 0 (MQ below (Qzv (dC, dI) 18 a (wdM cI cZ a h2 σ) sz) args s 0 0 (aN 18 a sz)) (F0 m pc ls []) := by
    intro t pc H locs ls hd h hz
    cases h
    exact zvret hsz hx hb hr hlocks hz hd
  generalize (MQ below (Qzv (dC, dI) 18 a (wdM cI cZ a h2 σ) sz) args s 0 0 (aN 18 a sz)) = Q at rt ⊢
  unfold fX6_mix at h
  refine lv_aload_n hx hb dX6_mix_0 rfl (lv_at hl 0 rfl) ?_
  refine lv_ldc2 (v := (31 : Int64)) hx hb hown (hts _ (List.mem_of_getElem? (i := 1) rfl)) dX6_mix_1 ?_
  refine lv_aload_n hx hb dX6_mix_4 rfl (lv_at hl 0 rfl) ?_
  refine va_get (v := .long hh) hx hb hts inX6_mix_X6 hown hKK.1 hz.1 0 rfl rfl 33 (by decide) (hts _ (List.mem_of_getElem? (i := 2) rfl)) (fun _ h9 => h9) rfl dX6_mix_5 ?_
  refine lv_lmul hx hb dX6_mix_8 ?_
  refine lv_lload_n hx hb dX6_mix_9 rfl (lv_at hl 1 rfl) ?_
  refine lv_ladd hx hb dX6_mix_10 ?_
  refine zput (ty := .long) (w' := wdM cI cZ a (((31 : Int64) * hh) + x1) σ) hx hb hts inX6_mix_X6 tyX6 tyX6_ok nmX6 hown hKK hok wkM hz 0 rfl rfl 33 (by decide) (hts _ (List.mem_of_getElem? (i := 2) rfl)) (fun _ h9 => h9) rfl rfl rfl rfl (Nat.le_of_ble_eq_true rfl) setMh dX6_mix_11 (fun H locs hz => ?_)
  exact rt (((31 : Int64) * hh) + x1) 14 _ _ _ dX6_mix_14 h hz
def fX6_digest_s162 (σ : St) (k162 : Int64 → Int32 → Option (Int64 × Int64)) (hh : Int64) (y1 : Int32) : Option (Int64 × Int64) :=
  (if (8 : Int32) ≤ y1 then (some (hh, hh)) else ((bd1 (fX6_howMany σ y1) fun r7 => (bd1 (fX6_mix σ hh (Int32.toInt64 r7)) fun s11 => k162 s11 (y1 + (1 : Int32))))))
def fX6_digest_l162 (σ : St)  : Nat → Int64 → Int32 → Option (Int64 × Int64) :=
  itr (fX6_digest_s162 σ ) (fun _ _ => none)
def fX6_digest_s135 (σ : St) (k135 : Int64 → Int32 → Option (Int64 × Int64)) (hh : Int64) (y1 : Int32) : Option (Int64 × Int64) :=
  (if (σ 40 0) ≤ y1 then (fX6_digest_l162 σ  FU hh (0 : Int32)) else ((ck (¬ (y1 < 0 ∨ 50 ≤ Int32.toNatClampNeg y1)) <| (bd1 (fX6_mix σ hh (Int32.toInt64 ((σ 1) (Int32.toNatClampNeg y1)))) fun s15 => k135 s15 (y1 + (1 : Int32))))))
def fX6_digest_l135 (σ : St)  : Nat → Int64 → Int32 → Option (Int64 × Int64) :=
  itr (fX6_digest_s135 σ ) (fun _ _ => none)
def fX6_digest_s111 (σ : St) (k111 : Int64 → Int32 → Option (Int64 × Int64)) (hh : Int64) (y1 : Int32) : Option (Int64 × Int64) :=
  (if (9 : Int32) ≤ y1 then (fX6_digest_l135 σ  FU hh (0 : Int32)) else ((bd1 (fX6_placedNow σ y1) fun r17 => (bd1 (fX6_mix σ hh (Int32.toInt64 r17)) fun s21 => k111 s21 (y1 + (1 : Int32))))))
def fX6_digest_l111 (σ : St)  : Nat → Int64 → Int32 → Option (Int64 × Int64) :=
  itr (fX6_digest_s111 σ ) (fun _ _ => none)
def fX6_digest_s78 (σ : St) (k78 : Int64 → Int32 → Option (Int64 × Int64)) (hh : Int64) (y1 : Int32) : Option (Int64 × Int64) :=
  (if ((4 : Int32) * (σ 49 0)) ≤ y1 then (fX6_digest_l111 σ  FU hh (0 : Int32)) else ((bd1 (fX6_constantNow σ (y1 / (4 : Int32)) (y1 - y1 / (4 : Int32) * (4 : Int32))) fun r23 => (bd1 (fX6_mix σ hh (Int32.toInt64 r23)) fun s27 => k78 s27 (y1 + (1 : Int32))))))
def fX6_digest_l78 (σ : St)  : Nat → Int64 → Int32 → Option (Int64 × Int64) :=
  itr (fX6_digest_s78 σ ) (fun _ _ => none)
def fX6_digest_s45 (σ : St) (k45 : Int64 → Int32 → Option (Int64 × Int64)) (hh : Int64) (y1 : Int32) : Option (Int64 × Int64) :=
  (if ((4 : Int32) * (σ 48 0)) ≤ y1 then (fX6_digest_l78 σ  FU hh (0 : Int32)) else ((bd1 (fX6_islandNow σ (y1 / (4 : Int32)) (y1 - y1 / (4 : Int32) * (4 : Int32))) fun r29 => (bd1 (fX6_mix σ hh (Int32.toInt64 r29)) fun s33 => k45 s33 (y1 + (1 : Int32))))))
def fX6_digest_l45 (σ : St)  : Nat → Int64 → Int32 → Option (Int64 × Int64) :=
  itr (fX6_digest_s45 σ ) (fun _ _ => none)
def fX6_digest_s9 (σ : St) (k9 : Int64 → Int32 → Option (Int64 × Int64)) (hh : Int64) (y1 : Int32) : Option (Int64 × Int64) :=
  (if ((6 : Int32) * (σ 41 0)) ≤ y1 then (fX6_digest_l45 σ  FU hh (0 : Int32)) else ((bd1 (fX6_itemNow σ (y1 / (6 : Int32)) (y1 - y1 / (6 : Int32) * (6 : Int32))) fun r35 => (bd1 (fX6_mix σ hh (Int32.toInt64 r35)) fun s39 => k9 s39 (y1 + (1 : Int32))))))
def fX6_digest_l9 (σ : St)  : Nat → Int64 → Int32 → Option (Int64 × Int64) :=
  itr (fX6_digest_s9 σ ) (fun _ _ => none)
def fX6_digest (σ : St) (hh : Int64)  : Option (Int64 × Int64) :=
  fX6_digest_l9 σ  FU (1637 : Int64) (0 : Int32)
abbrev rmX6_digest : Room := { frames := 5, cells := 0, slots := 0, locals := 114 }
set_option maxHeartbeats 4000000 in
set_option maxRecDepth 100000 in
theorem KX6_digest {l : Launch} {dC : Nat → ClassId} {dI : Nat → Nat → Nat} {cI cZ : ClassId} {a : Nat → Nat} {hh : Int64} {σ : St}  {r h2 : Int64} (hok : okA 18 a) (h : fX6_digest σ hh  = some (r, h2)) (sz : Nat) : Met l yX6_digest wsX6_digest rmX6_digest (Pz (dC, dI) cI cZ (wdM cI cZ a hh σ) sz [.ref (a 0)]) (Qzl (dC, dI) 18 a (wdM cI cZ a h2 σ) sz r) 0 0 (aN 18 a sz) := by
  refine Met.ofW (cc := cX6_digest) (maxL := 2) (ret := (some .long)) (by decide) rfl ?_
  intro p e s m args below meth c s₁ B hml hv
  obtain ⟨hav, hsz, hP, hKK⟩ := hv
  have hx := B.exec
  have hb := B.bytes
  have hr := B.returns
  have hts := atoms_spec (ws := wsX6_digest) B.pre
  have hown : s.vm.findClass RX6 = some m.cls := findClass_of_methodNamed B.named
  have hlocks := B.notSynchronized
  have CF : CallFix p m c cX6_digest 2 s args wsX6_digest RX6 := ⟨hx, hb, hml, hown, hts⟩
  have hz : zz (dC, dI) 18 a (wdM cI cZ a hh σ) s.heap s.heap [] := ⟨hP, va_S.rf⟩
  have hl := lv_entry [.ref (a 0)] (n := 2) (Nat.le_of_ble_eq_true rfl)
  have hen : entryFrame m args 2 = entryFrame m ([.ref (a 0)] : List Value).toArray 2 := by rw [hav]
  rw [hen, lg_entry_eq]
  generalize (lg_sl [.ref (a 0)] ++ List.replicate (2 - (lg_sl [.ref (a 0)]).length) Slot.unset).toArray = ls at hl ⊢
  have hl : lv_has ls 2 [(0, .ref (a 0))] := hl
  have eR : (headSpec wsX6_digest rmX6_digest).room = rmX6_digest := rfl
  rw [eR]
  have rt : ∀ (v t : Int64) (pc : Nat) (H : Heap) (locs : List Loc) (ls : Array Slot), decode cX6_digest pc = .ok (.lreturn, 1) → some (v, t) = some (r, h2) → zz (dC, dI) 18 a (wdM cI cZ a t σ) s.heap H locs → W p l e rmX6_digest s m args below meth c H locs 0 0 (MQ below (Qzl (dC, dI) 18 a (wdM cI cZ a h2 σ) sz r) args s 0 0 (aN 18 a sz)) (F0 m pc ls [.long v]) := by
    intro v t pc H locs ls hd h hz
    cases h
    exact zlret hsz hx hb hr hlocks hz hd
  generalize (MQ below (Qzl (dC, dI) 18 a (wdM cI cZ a h2 σ) sz r) args s 0 0 (aN 18 a sz)) = Q at rt ⊢
  have s162 : ∀ (k162 : Int64 → Int32 → Option (Int64 × Int64)) (hk162 : (∀ (hh : Int64) (y1 : Int32) (H : Heap) (locs : List Loc) (ls : Array Slot), k162 hh y1 = some (r, h2) → zz (dC, dI) 18 a (wdM cI cZ a hh σ) s.heap H locs → lv_has ls 2 [(0, .ref (a 0)), (1, .int y1)] → W p l e rmX6_digest s m args below meth c H locs 0 0 Q (F0 m 162 ls []))) (hh : Int64) (y1 : Int32) (H : Heap) (locs : List Loc) (ls : Array Slot), fX6_digest_s162 σ k162 hh y1 = some (r, h2) → zz (dC, dI) 18 a (wdM cI cZ a hh σ) s.heap H locs → lv_has ls 2 [(0, .ref (a 0)), (1, .int y1)] → W p l e rmX6_digest s m args below meth c H locs 0 0 Q (F0 m 162 ls []) := by
    intro k162 hk162 hh y1 H locs ls h hz hl
    unfold fX6_digest_s162 at h
    refine lv_iload_n hx hb dX6_digest_162 rfl (lv_at hl 1 rfl) ?_
    refine lv_bipush (v := (8 : Int32)) hx hb dX6_digest_163 (by decide) ?_
    refine lv_icmp_ge (tgt := 184) hx hb dX6_digest_165 (by decide) (fun c6 => ?_) (fun c6 => ?_)
    · replace h := ite_t c6 h
      refine lv_aload_n hx hb dX6_digest_184 rfl (lv_at hl 0 rfl) ?_
      refine va_get (v := .long hh) hx hb hts inX6_digest_X6 hown hKK.1 hz.1 0 rfl rfl 33 (by decide) (hts _ (List.mem_of_getElem? (i := 2) rfl)) (fun _ h9 => h9) rfl dX6_digest_185 ?_
      exact rt hh hh 188 _ _ _ dX6_digest_188 h hz
    · replace h := ite_f c6 h
      refine lv_aload_n hx hb dX6_digest_168 rfl (lv_at hl 0 rfl) ?_
      refine lv_aload_n hx hb dX6_digest_169 rfl (lv_at hl 0 rfl) ?_
      refine lv_iload_n hx hb dX6_digest_170 rfl (lv_at hl 1 rfl) ?_
      obtain ⟨r7, e9, h⟩ := bd1_e h
      refine zcallVi (As := [.int y1]) (rest := [.ref (a 0)]) CF hKK (KX6_howMany (dC := dC) (dI := dI) (cI := cI) (cZ := cZ) (a := a) hok e9) (cwV 1 hts gX6_digest_X6_howMany rfl rfl rfl cdX6_howMany ⟨Nat.le_of_ble_eq_true rfl, Nat.le_of_ble_eq_true rfl⟩) 0 6 rfl rfl hz rfl hl.1 rfl (Nat.le_of_ble_eq_true rfl) dX6_digest_171 ⟨Nat.le_refl _, Nat.le_refl _⟩ (fun H locs hz => ?_)
      refine lv_i2l (v := (Int32.toInt64 r7)) hx hb dX6_digest_174 rfl ?_
      obtain ⟨s11, e12, h⟩ := bd1_e h
      refine zcallVv (As := [.long (Int32.toInt64 r7)]) (rest := []) CF hKK (KX6_mix (dC := dC) (dI := dI) (cI := cI) (cZ := cZ) (a := a) hok e12) (cwV 1 hts gX6_digest_X6_mix rfl rfl rfl cdX6_mix ⟨Nat.le_of_ble_eq_true rfl, Nat.le_of_ble_eq_true rfl⟩) 0 6 rfl rfl hz rfl hl.1 rfl (Nat.le_of_ble_eq_true rfl) dX6_digest_175 ⟨Nat.le_refl _, Nat.le_refl _⟩ (fun H locs hz => ?_)
      refine lv_iinc (v := (y1 + (1 : Int32))) (lv' := [(1, .int (y1 + (1 : Int32))), (0, .ref (a 0))]) hx hb dX6_digest_178 hl (k := 1) rfl rfl (by decide) rfl (fun ls hl => ?_)
      refine lv_goto (tgt := 162) hx hb dX6_digest_181 (by decide) ?_
      exact hk162 s11 (y1 + (1 : Int32)) _ _ _ h hz (lv_sub hl [1, 0] rfl)
  have l162 : ∀  (n : Nat), ∀ (hh : Int64) (y1 : Int32) (H : Heap) (locs : List Loc) (ls : Array Slot), fX6_digest_l162 σ  n hh y1 = some (r, h2) → zz (dC, dI) 18 a (wdM cI cZ a hh σ) s.heap H locs → lv_has ls 2 [(0, .ref (a 0)), (1, .int y1)] → W p l e rmX6_digest s m args below meth c H locs 0 0 Q (F0 m 162 ls []) := by
    intro  n
    induction n with
    | zero => intro hh y1 H locs ls h; exact nomatch h
    | succ n ih => exact s162  (fX6_digest_l162 σ  n) ih
  have s135 : ∀ (k135 : Int64 → Int32 → Option (Int64 × Int64)) (hk135 : (∀ (hh : Int64) (y1 : Int32) (H : Heap) (locs : List Loc) (ls : Array Slot), k135 hh y1 = some (r, h2) → zz (dC, dI) 18 a (wdM cI cZ a hh σ) s.heap H locs → lv_has ls 2 [(0, .ref (a 0)), (1, .int y1)] → W p l e rmX6_digest s m args below meth c H locs 0 0 Q (F0 m 135 ls []))) (hh : Int64) (y1 : Int32) (H : Heap) (locs : List Loc) (ls : Array Slot), fX6_digest_s135 σ k135 hh y1 = some (r, h2) → zz (dC, dI) 18 a (wdM cI cZ a hh σ) s.heap H locs → lv_has ls 2 [(0, .ref (a 0)), (1, .int y1)] → W p l e rmX6_digest s m args below meth c H locs 0 0 Q (F0 m 135 ls []) := by
    intro k135 hk135 hh y1 H locs ls h hz hl
    unfold fX6_digest_s135 at h
    refine lv_iload_n hx hb dX6_digest_135 rfl (lv_at hl 1 rfl) ?_
    refine lv_aload_n hx hb dX6_digest_136 rfl (lv_at hl 0 rfl) ?_
    refine va_get (v := .int (σ 40 0)) hx hb hts inX6_digest_X6 hown hKK.1 hz.1 0 rfl rfl 0 (by decide) (hts _ (List.mem_of_getElem? (i := 6) rfl)) (fun _ h9 => h9) rfl dX6_digest_137 ?_
    refine lv_icmp_ge (tgt := 160) hx hb dX6_digest_140 (by decide) (fun c5 => ?_) (fun c5 => ?_)
    · replace h := ite_t c5 h
      refine lv_iconst (v := (0 : Int32)) hx hb dX6_digest_160 (by decide) ?_
      refine lv_istore_n (lv' := [(1, .int (0 : Int32)), (0, .ref (a 0))]) hx hb dX6_digest_161 rfl hl (by decide) rfl (fun ls hl => ?_)
      exact l162  FU hh (0 : Int32) _ _ _ h hz (lv_sub hl [1, 0] rfl)
    · replace h := ite_f c5 h
      refine lv_aload_n hx hb dX6_digest_143 rfl (lv_at hl 0 rfl) ?_
      refine lv_aload_n hx hb dX6_digest_144 rfl (lv_at hl 0 rfl) ?_
      refine va_get (v := .ref (a 1)) hx hb hts inX6_digest_X6 hown hKK.1 hz.1 0 rfl rfl 1 (by decide) (hts _ (List.mem_of_getElem? (i := 7) rfl)) (fun _ h9 => h9) rfl dX6_digest_145 ?_
      refine lv_iload_n hx hb dX6_digest_148 rfl (lv_at hl 1 rfl) ?_
      obtain ⟨c13, h⟩ := ck_e h
      refine va_iald (f := (σ 1)) hx hb hKK.1 hz.1 1 0 rfl rfl c13 dX6_digest_149 ?_
      refine lv_i2l (v := (Int32.toInt64 ((σ 1) (Int32.toNatClampNeg y1)))) hx hb dX6_digest_150 rfl ?_
      obtain ⟨s15, e16, h⟩ := bd1_e h
      refine zcallVv (As := [.long (Int32.toInt64 ((σ 1) (Int32.toNatClampNeg y1)))]) (rest := []) CF hKK (KX6_mix (dC := dC) (dI := dI) (cI := cI) (cZ := cZ) (a := a) hok e16) (cwV 1 hts gX6_digest_X6_mix rfl rfl rfl cdX6_mix ⟨Nat.le_of_ble_eq_true rfl, Nat.le_of_ble_eq_true rfl⟩) 0 6 rfl rfl hz rfl hl.1 rfl (Nat.le_of_ble_eq_true rfl) dX6_digest_151 ⟨Nat.le_refl _, Nat.le_refl _⟩ (fun H locs hz => ?_)
      refine lv_iinc (v := (y1 + (1 : Int32))) (lv' := [(1, .int (y1 + (1 : Int32))), (0, .ref (a 0))]) hx hb dX6_digest_154 hl (k := 1) rfl rfl (by decide) rfl (fun ls hl => ?_)
      refine lv_goto (tgt := 135) hx hb dX6_digest_157 (by decide) ?_
      exact hk135 s15 (y1 + (1 : Int32)) _ _ _ h hz (lv_sub hl [1, 0] rfl)
  have l135 : ∀  (n : Nat), ∀ (hh : Int64) (y1 : Int32) (H : Heap) (locs : List Loc) (ls : Array Slot), fX6_digest_l135 σ  n hh y1 = some (r, h2) → zz (dC, dI) 18 a (wdM cI cZ a hh σ) s.heap H locs → lv_has ls 2 [(0, .ref (a 0)), (1, .int y1)] → W p l e rmX6_digest s m args below meth c H locs 0 0 Q (F0 m 135 ls []) := by
    intro  n
    induction n with
    | zero => intro hh y1 H locs ls h; exact nomatch h
    | succ n ih => exact s135  (fX6_digest_l135 σ  n) ih
  have s111 : ∀ (k111 : Int64 → Int32 → Option (Int64 × Int64)) (hk111 : (∀ (hh : Int64) (y1 : Int32) (H : Heap) (locs : List Loc) (ls : Array Slot), k111 hh y1 = some (r, h2) → zz (dC, dI) 18 a (wdM cI cZ a hh σ) s.heap H locs → lv_has ls 2 [(0, .ref (a 0)), (1, .int y1)] → W p l e rmX6_digest s m args below meth c H locs 0 0 Q (F0 m 111 ls []))) (hh : Int64) (y1 : Int32) (H : Heap) (locs : List Loc) (ls : Array Slot), fX6_digest_s111 σ k111 hh y1 = some (r, h2) → zz (dC, dI) 18 a (wdM cI cZ a hh σ) s.heap H locs → lv_has ls 2 [(0, .ref (a 0)), (1, .int y1)] → W p l e rmX6_digest s m args below meth c H locs 0 0 Q (F0 m 111 ls []) := by
    intro k111 hk111 hh y1 H locs ls h hz hl
    unfold fX6_digest_s111 at h
    refine lv_iload_n hx hb dX6_digest_111 rfl (lv_at hl 1 rfl) ?_
    refine lv_bipush (v := (9 : Int32)) hx hb dX6_digest_112 (by decide) ?_
    refine lv_icmp_ge (tgt := 133) hx hb dX6_digest_114 (by decide) (fun c4 => ?_) (fun c4 => ?_)
    · replace h := ite_t c4 h
      refine lv_iconst (v := (0 : Int32)) hx hb dX6_digest_133 (by decide) ?_
      refine lv_istore_n (lv' := [(1, .int (0 : Int32)), (0, .ref (a 0))]) hx hb dX6_digest_134 rfl hl (by decide) rfl (fun ls hl => ?_)
      exact l135  FU hh (0 : Int32) _ _ _ h hz (lv_sub hl [1, 0] rfl)
    · replace h := ite_f c4 h
      refine lv_aload_n hx hb dX6_digest_117 rfl (lv_at hl 0 rfl) ?_
      refine lv_aload_n hx hb dX6_digest_118 rfl (lv_at hl 0 rfl) ?_
      refine lv_iload_n hx hb dX6_digest_119 rfl (lv_at hl 1 rfl) ?_
      obtain ⟨r17, e19, h⟩ := bd1_e h
      refine zcallVi (As := [.int y1]) (rest := [.ref (a 0)]) CF hKK (KX6_placedNow (dC := dC) (dI := dI) (cI := cI) (cZ := cZ) (a := a) hok e19) (cwV 1 hts gX6_digest_X6_placedNow rfl rfl rfl cdX6_placedNow ⟨Nat.le_of_ble_eq_true rfl, Nat.le_of_ble_eq_true rfl⟩) 0 6 rfl rfl hz rfl hl.1 rfl (Nat.le_of_ble_eq_true rfl) dX6_digest_120 ⟨Nat.le_refl _, Nat.le_refl _⟩ (fun H locs hz => ?_)
      refine lv_i2l (v := (Int32.toInt64 r17)) hx hb dX6_digest_123 rfl ?_
      obtain ⟨s21, e22, h⟩ := bd1_e h
      refine zcallVv (As := [.long (Int32.toInt64 r17)]) (rest := []) CF hKK (KX6_mix (dC := dC) (dI := dI) (cI := cI) (cZ := cZ) (a := a) hok e22) (cwV 1 hts gX6_digest_X6_mix rfl rfl rfl cdX6_mix ⟨Nat.le_of_ble_eq_true rfl, Nat.le_of_ble_eq_true rfl⟩) 0 6 rfl rfl hz rfl hl.1 rfl (Nat.le_of_ble_eq_true rfl) dX6_digest_124 ⟨Nat.le_refl _, Nat.le_refl _⟩ (fun H locs hz => ?_)
      refine lv_iinc (v := (y1 + (1 : Int32))) (lv' := [(1, .int (y1 + (1 : Int32))), (0, .ref (a 0))]) hx hb dX6_digest_127 hl (k := 1) rfl rfl (by decide) rfl (fun ls hl => ?_)
      refine lv_goto (tgt := 111) hx hb dX6_digest_130 (by decide) ?_
      exact hk111 s21 (y1 + (1 : Int32)) _ _ _ h hz (lv_sub hl [1, 0] rfl)
  have l111 : ∀  (n : Nat), ∀ (hh : Int64) (y1 : Int32) (H : Heap) (locs : List Loc) (ls : Array Slot), fX6_digest_l111 σ  n hh y1 = some (r, h2) → zz (dC, dI) 18 a (wdM cI cZ a hh σ) s.heap H locs → lv_has ls 2 [(0, .ref (a 0)), (1, .int y1)] → W p l e rmX6_digest s m args below meth c H locs 0 0 Q (F0 m 111 ls []) := by
    intro  n
    induction n with
    | zero => intro hh y1 H locs ls h; exact nomatch h
    | succ n ih => exact s111  (fX6_digest_l111 σ  n) ih
  have s78 : ∀ (k78 : Int64 → Int32 → Option (Int64 × Int64)) (hk78 : (∀ (hh : Int64) (y1 : Int32) (H : Heap) (locs : List Loc) (ls : Array Slot), k78 hh y1 = some (r, h2) → zz (dC, dI) 18 a (wdM cI cZ a hh σ) s.heap H locs → lv_has ls 2 [(0, .ref (a 0)), (1, .int y1)] → W p l e rmX6_digest s m args below meth c H locs 0 0 Q (F0 m 78 ls []))) (hh : Int64) (y1 : Int32) (H : Heap) (locs : List Loc) (ls : Array Slot), fX6_digest_s78 σ k78 hh y1 = some (r, h2) → zz (dC, dI) 18 a (wdM cI cZ a hh σ) s.heap H locs → lv_has ls 2 [(0, .ref (a 0)), (1, .int y1)] → W p l e rmX6_digest s m args below meth c H locs 0 0 Q (F0 m 78 ls []) := by
    intro k78 hk78 hh y1 H locs ls h hz hl
    unfold fX6_digest_s78 at h
    refine lv_iload_n hx hb dX6_digest_78 rfl (lv_at hl 1 rfl) ?_
    refine lv_iconst (v := (4 : Int32)) hx hb dX6_digest_79 (by decide) ?_
    refine lv_aload_n hx hb dX6_digest_80 rfl (lv_at hl 0 rfl) ?_
    refine va_get (v := .int (σ 49 0)) hx hb hts inX6_digest_X6 hown hKK.1 hz.1 0 rfl rfl 18 (by decide) (hts _ (List.mem_of_getElem? (i := 5) rfl)) (fun _ h9 => h9) rfl dX6_digest_81 ?_
    refine lv_imul hx hb dX6_digest_84 ?_
    refine lv_icmp_ge (tgt := 109) hx hb dX6_digest_85 (by decide) (fun c3 => ?_) (fun c3 => ?_)
    · replace h := ite_t c3 h
      refine lv_iconst (v := (0 : Int32)) hx hb dX6_digest_109 (by decide) ?_
      refine lv_istore_n (lv' := [(1, .int (0 : Int32)), (0, .ref (a 0))]) hx hb dX6_digest_110 rfl hl (by decide) rfl (fun ls hl => ?_)
      exact l111  FU hh (0 : Int32) _ _ _ h hz (lv_sub hl [1, 0] rfl)
    · replace h := ite_f c3 h
      refine lv_aload_n hx hb dX6_digest_88 rfl (lv_at hl 0 rfl) ?_
      refine lv_aload_n hx hb dX6_digest_89 rfl (lv_at hl 0 rfl) ?_
      refine lv_iload_n hx hb dX6_digest_90 rfl (lv_at hl 1 rfl) ?_
      refine lv_iconst (v := (4 : Int32)) hx hb dX6_digest_91 (by decide) ?_
      refine lv_idiv hx hb dX6_digest_92 (by decide) ?_
      refine lv_iload_n hx hb dX6_digest_93 rfl (lv_at hl 1 rfl) ?_
      refine lv_iconst (v := (4 : Int32)) hx hb dX6_digest_94 (by decide) ?_
      refine lv_irem hx hb dX6_digest_95 (by decide) ?_
      obtain ⟨r23, e25, h⟩ := bd1_e h
      refine zcallVi (As := [.int (y1 / (4 : Int32)), .int (y1 - y1 / (4 : Int32) * (4 : Int32))]) (rest := [.ref (a 0)]) CF hKK (KX6_constantNow (dC := dC) (dI := dI) (cI := cI) (cZ := cZ) (a := a) hok e25) (cwV 2 hts gX6_digest_X6_constantNow rfl rfl rfl cdX6_constantNow ⟨Nat.le_of_ble_eq_true rfl, Nat.le_of_ble_eq_true rfl⟩) 0 6 rfl rfl hz rfl hl.1 rfl (Nat.le_of_ble_eq_true rfl) dX6_digest_96 ⟨Nat.le_refl _, Nat.le_refl _⟩ (fun H locs hz => ?_)
      refine lv_i2l (v := (Int32.toInt64 r23)) hx hb dX6_digest_99 rfl ?_
      obtain ⟨s27, e28, h⟩ := bd1_e h
      refine zcallVv (As := [.long (Int32.toInt64 r23)]) (rest := []) CF hKK (KX6_mix (dC := dC) (dI := dI) (cI := cI) (cZ := cZ) (a := a) hok e28) (cwV 1 hts gX6_digest_X6_mix rfl rfl rfl cdX6_mix ⟨Nat.le_of_ble_eq_true rfl, Nat.le_of_ble_eq_true rfl⟩) 0 6 rfl rfl hz rfl hl.1 rfl (Nat.le_of_ble_eq_true rfl) dX6_digest_100 ⟨Nat.le_refl _, Nat.le_refl _⟩ (fun H locs hz => ?_)
      refine lv_iinc (v := (y1 + (1 : Int32))) (lv' := [(1, .int (y1 + (1 : Int32))), (0, .ref (a 0))]) hx hb dX6_digest_103 hl (k := 1) rfl rfl (by decide) rfl (fun ls hl => ?_)
      refine lv_goto (tgt := 78) hx hb dX6_digest_106 (by decide) ?_
      exact hk78 s27 (y1 + (1 : Int32)) _ _ _ h hz (lv_sub hl [1, 0] rfl)
  have l78 : ∀  (n : Nat), ∀ (hh : Int64) (y1 : Int32) (H : Heap) (locs : List Loc) (ls : Array Slot), fX6_digest_l78 σ  n hh y1 = some (r, h2) → zz (dC, dI) 18 a (wdM cI cZ a hh σ) s.heap H locs → lv_has ls 2 [(0, .ref (a 0)), (1, .int y1)] → W p l e rmX6_digest s m args below meth c H locs 0 0 Q (F0 m 78 ls []) := by
    intro  n
    induction n with
    | zero => intro hh y1 H locs ls h; exact nomatch h
    | succ n ih => exact s78  (fX6_digest_l78 σ  n) ih
  have s45 : ∀ (k45 : Int64 → Int32 → Option (Int64 × Int64)) (hk45 : (∀ (hh : Int64) (y1 : Int32) (H : Heap) (locs : List Loc) (ls : Array Slot), k45 hh y1 = some (r, h2) → zz (dC, dI) 18 a (wdM cI cZ a hh σ) s.heap H locs → lv_has ls 2 [(0, .ref (a 0)), (1, .int y1)] → W p l e rmX6_digest s m args below meth c H locs 0 0 Q (F0 m 45 ls []))) (hh : Int64) (y1 : Int32) (H : Heap) (locs : List Loc) (ls : Array Slot), fX6_digest_s45 σ k45 hh y1 = some (r, h2) → zz (dC, dI) 18 a (wdM cI cZ a hh σ) s.heap H locs → lv_has ls 2 [(0, .ref (a 0)), (1, .int y1)] → W p l e rmX6_digest s m args below meth c H locs 0 0 Q (F0 m 45 ls []) := by
    intro k45 hk45 hh y1 H locs ls h hz hl
    unfold fX6_digest_s45 at h
    refine lv_iload_n hx hb dX6_digest_45 rfl (lv_at hl 1 rfl) ?_
    refine lv_iconst (v := (4 : Int32)) hx hb dX6_digest_46 (by decide) ?_
    refine lv_aload_n hx hb dX6_digest_47 rfl (lv_at hl 0 rfl) ?_
    refine va_get (v := .int (σ 48 0)) hx hb hts inX6_digest_X6 hown hKK.1 hz.1 0 rfl rfl 15 (by decide) (hts _ (List.mem_of_getElem? (i := 4) rfl)) (fun _ h9 => h9) rfl dX6_digest_48 ?_
    refine lv_imul hx hb dX6_digest_51 ?_
    refine lv_icmp_ge (tgt := 76) hx hb dX6_digest_52 (by decide) (fun c2 => ?_) (fun c2 => ?_)
    · replace h := ite_t c2 h
      refine lv_iconst (v := (0 : Int32)) hx hb dX6_digest_76 (by decide) ?_
      refine lv_istore_n (lv' := [(1, .int (0 : Int32)), (0, .ref (a 0))]) hx hb dX6_digest_77 rfl hl (by decide) rfl (fun ls hl => ?_)
      exact l78  FU hh (0 : Int32) _ _ _ h hz (lv_sub hl [1, 0] rfl)
    · replace h := ite_f c2 h
      refine lv_aload_n hx hb dX6_digest_55 rfl (lv_at hl 0 rfl) ?_
      refine lv_aload_n hx hb dX6_digest_56 rfl (lv_at hl 0 rfl) ?_
      refine lv_iload_n hx hb dX6_digest_57 rfl (lv_at hl 1 rfl) ?_
      refine lv_iconst (v := (4 : Int32)) hx hb dX6_digest_58 (by decide) ?_
      refine lv_idiv hx hb dX6_digest_59 (by decide) ?_
      refine lv_iload_n hx hb dX6_digest_60 rfl (lv_at hl 1 rfl) ?_
      refine lv_iconst (v := (4 : Int32)) hx hb dX6_digest_61 (by decide) ?_
      refine lv_irem hx hb dX6_digest_62 (by decide) ?_
      obtain ⟨r29, e31, h⟩ := bd1_e h
      refine zcallVi (As := [.int (y1 / (4 : Int32)), .int (y1 - y1 / (4 : Int32) * (4 : Int32))]) (rest := [.ref (a 0)]) CF hKK (KX6_islandNow (dC := dC) (dI := dI) (cI := cI) (cZ := cZ) (a := a) hok e31) (cwV 2 hts gX6_digest_X6_islandNow rfl rfl rfl cdX6_islandNow ⟨Nat.le_of_ble_eq_true rfl, Nat.le_of_ble_eq_true rfl⟩) 0 6 rfl rfl hz rfl hl.1 rfl (Nat.le_of_ble_eq_true rfl) dX6_digest_63 ⟨Nat.le_refl _, Nat.le_refl _⟩ (fun H locs hz => ?_)
      refine lv_i2l (v := (Int32.toInt64 r29)) hx hb dX6_digest_66 rfl ?_
      obtain ⟨s33, e34, h⟩ := bd1_e h
      refine zcallVv (As := [.long (Int32.toInt64 r29)]) (rest := []) CF hKK (KX6_mix (dC := dC) (dI := dI) (cI := cI) (cZ := cZ) (a := a) hok e34) (cwV 1 hts gX6_digest_X6_mix rfl rfl rfl cdX6_mix ⟨Nat.le_of_ble_eq_true rfl, Nat.le_of_ble_eq_true rfl⟩) 0 6 rfl rfl hz rfl hl.1 rfl (Nat.le_of_ble_eq_true rfl) dX6_digest_67 ⟨Nat.le_refl _, Nat.le_refl _⟩ (fun H locs hz => ?_)
      refine lv_iinc (v := (y1 + (1 : Int32))) (lv' := [(1, .int (y1 + (1 : Int32))), (0, .ref (a 0))]) hx hb dX6_digest_70 hl (k := 1) rfl rfl (by decide) rfl (fun ls hl => ?_)
      refine lv_goto (tgt := 45) hx hb dX6_digest_73 (by decide) ?_
      exact hk45 s33 (y1 + (1 : Int32)) _ _ _ h hz (lv_sub hl [1, 0] rfl)
  have l45 : ∀  (n : Nat), ∀ (hh : Int64) (y1 : Int32) (H : Heap) (locs : List Loc) (ls : Array Slot), fX6_digest_l45 σ  n hh y1 = some (r, h2) → zz (dC, dI) 18 a (wdM cI cZ a hh σ) s.heap H locs → lv_has ls 2 [(0, .ref (a 0)), (1, .int y1)] → W p l e rmX6_digest s m args below meth c H locs 0 0 Q (F0 m 45 ls []) := by
    intro  n
    induction n with
    | zero => intro hh y1 H locs ls h; exact nomatch h
    | succ n ih => exact s45  (fX6_digest_l45 σ  n) ih
  have s9 : ∀ (k9 : Int64 → Int32 → Option (Int64 × Int64)) (hk9 : (∀ (hh : Int64) (y1 : Int32) (H : Heap) (locs : List Loc) (ls : Array Slot), k9 hh y1 = some (r, h2) → zz (dC, dI) 18 a (wdM cI cZ a hh σ) s.heap H locs → lv_has ls 2 [(0, .ref (a 0)), (1, .int y1)] → W p l e rmX6_digest s m args below meth c H locs 0 0 Q (F0 m 9 ls []))) (hh : Int64) (y1 : Int32) (H : Heap) (locs : List Loc) (ls : Array Slot), fX6_digest_s9 σ k9 hh y1 = some (r, h2) → zz (dC, dI) 18 a (wdM cI cZ a hh σ) s.heap H locs → lv_has ls 2 [(0, .ref (a 0)), (1, .int y1)] → W p l e rmX6_digest s m args below meth c H locs 0 0 Q (F0 m 9 ls []) := by
    intro k9 hk9 hh y1 H locs ls h hz hl
    unfold fX6_digest_s9 at h
    refine lv_iload_n hx hb dX6_digest_9 rfl (lv_at hl 1 rfl) ?_
    refine lv_bipush (v := (6 : Int32)) hx hb dX6_digest_10 (by decide) ?_
    refine lv_aload_n hx hb dX6_digest_12 rfl (lv_at hl 0 rfl) ?_
    refine va_get (v := .int (σ 41 0)) hx hb hts inX6_digest_X6 hown hKK.1 hz.1 0 rfl rfl 2 (by decide) (hts _ (List.mem_of_getElem? (i := 3) rfl)) (fun _ h9 => h9) rfl dX6_digest_13 ?_
    refine lv_imul hx hb dX6_digest_16 ?_
    refine lv_icmp_ge (tgt := 43) hx hb dX6_digest_17 (by decide) (fun c1 => ?_) (fun c1 => ?_)
    · replace h := ite_t c1 h
      refine lv_iconst (v := (0 : Int32)) hx hb dX6_digest_43 (by decide) ?_
      refine lv_istore_n (lv' := [(1, .int (0 : Int32)), (0, .ref (a 0))]) hx hb dX6_digest_44 rfl hl (by decide) rfl (fun ls hl => ?_)
      exact l45  FU hh (0 : Int32) _ _ _ h hz (lv_sub hl [1, 0] rfl)
    · replace h := ite_f c1 h
      refine lv_aload_n hx hb dX6_digest_20 rfl (lv_at hl 0 rfl) ?_
      refine lv_aload_n hx hb dX6_digest_21 rfl (lv_at hl 0 rfl) ?_
      refine lv_iload_n hx hb dX6_digest_22 rfl (lv_at hl 1 rfl) ?_
      refine lv_bipush (v := (6 : Int32)) hx hb dX6_digest_23 (by decide) ?_
      refine lv_idiv hx hb dX6_digest_25 (by decide) ?_
      refine lv_iload_n hx hb dX6_digest_26 rfl (lv_at hl 1 rfl) ?_
      refine lv_bipush (v := (6 : Int32)) hx hb dX6_digest_27 (by decide) ?_
      refine lv_irem hx hb dX6_digest_29 (by decide) ?_
      obtain ⟨r35, e37, h⟩ := bd1_e h
      refine zcallVi (As := [.int (y1 / (6 : Int32)), .int (y1 - y1 / (6 : Int32) * (6 : Int32))]) (rest := [.ref (a 0)]) CF hKK (KX6_itemNow (dC := dC) (dI := dI) (cI := cI) (cZ := cZ) (a := a) hok e37) (cwV 2 hts gX6_digest_X6_itemNow rfl rfl rfl cdX6_itemNow ⟨Nat.le_of_ble_eq_true rfl, Nat.le_of_ble_eq_true rfl⟩) 0 6 rfl rfl hz rfl hl.1 rfl (Nat.le_of_ble_eq_true rfl) dX6_digest_30 ⟨Nat.le_refl _, Nat.le_refl _⟩ (fun H locs hz => ?_)
      refine lv_i2l (v := (Int32.toInt64 r35)) hx hb dX6_digest_33 rfl ?_
      obtain ⟨s39, e40, h⟩ := bd1_e h
      refine zcallVv (As := [.long (Int32.toInt64 r35)]) (rest := []) CF hKK (KX6_mix (dC := dC) (dI := dI) (cI := cI) (cZ := cZ) (a := a) hok e40) (cwV 1 hts gX6_digest_X6_mix rfl rfl rfl cdX6_mix ⟨Nat.le_of_ble_eq_true rfl, Nat.le_of_ble_eq_true rfl⟩) 0 6 rfl rfl hz rfl hl.1 rfl (Nat.le_of_ble_eq_true rfl) dX6_digest_34 ⟨Nat.le_refl _, Nat.le_refl _⟩ (fun H locs hz => ?_)
      refine lv_iinc (v := (y1 + (1 : Int32))) (lv' := [(1, .int (y1 + (1 : Int32))), (0, .ref (a 0))]) hx hb dX6_digest_37 hl (k := 1) rfl rfl (by decide) rfl (fun ls hl => ?_)
      refine lv_goto (tgt := 9) hx hb dX6_digest_40 (by decide) ?_
      exact hk9 s39 (y1 + (1 : Int32)) _ _ _ h hz (lv_sub hl [1, 0] rfl)
  have l9 : ∀  (n : Nat), ∀ (hh : Int64) (y1 : Int32) (H : Heap) (locs : List Loc) (ls : Array Slot), fX6_digest_l9 σ  n hh y1 = some (r, h2) → zz (dC, dI) 18 a (wdM cI cZ a hh σ) s.heap H locs → lv_has ls 2 [(0, .ref (a 0)), (1, .int y1)] → W p l e rmX6_digest s m args below meth c H locs 0 0 Q (F0 m 9 ls []) := by
    intro  n
    induction n with
    | zero => intro hh y1 H locs ls h; exact nomatch h
    | succ n ih => exact s9  (fX6_digest_l9 σ  n) ih
  unfold fX6_digest at h
  refine lv_aload_n hx hb dX6_digest_0 rfl (lv_at hl 0 rfl) ?_
  refine lv_ldc2 (v := (1637 : Int64)) hx hb hown (hts _ (List.mem_of_getElem? (i := 1) rfl)) dX6_digest_1 ?_
  refine zput (ty := .long) (w' := wdM cI cZ a (1637 : Int64) σ) hx hb hts inX6_digest_X6 tyX6 tyX6_ok nmX6 hown hKK hok wkM hz 0 rfl rfl 33 (by decide) (hts _ (List.mem_of_getElem? (i := 2) rfl)) (fun _ h9 => h9) rfl rfl rfl rfl (Nat.le_of_ble_eq_true rfl) setMh dX6_digest_4 (fun H locs hz => ?_)
  refine lv_iconst (v := (0 : Int32)) hx hb dX6_digest_7 (by decide) ?_
  refine lv_istore_n (lv' := [(1, .int (0 : Int32)), (0, .ref (a 0))]) hx hb dX6_digest_8 rfl hl (by decide) rfl (fun ls hl => ?_)
  exact l9  FU (1637 : Int64) (0 : Int32) _ _ _ h hz (lv_sub hl [1, 0] rfl)
