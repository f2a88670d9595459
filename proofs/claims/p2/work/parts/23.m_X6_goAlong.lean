def fX6_goAlong_s22 (k22 : St → Int32 → Option (Int32 × St)) (σ : St) (y1 : Int32) : Option (Int32 × St) :=
  (if (σ 40 0) ≤ y1 then (some (y1, σ)) else ((ck (¬ (y1 < 0 ∨ 50 ≤ Int32.toNatClampNeg y1)) <| (bd2 (fX6_takes σ ((σ 1) (Int32.toNatClampNeg y1))) fun r3 s4 => (if r3 = 0 then (some (y1, s4)) else (k22 s4 (y1 + (1 : Int32))))))))
def fX6_goAlong_l22  : Nat → St → Int32 → Option (Int32 × St) :=
  itr (fX6_goAlong_s22 ) (fun _ _ => none)
def fX6_goAlong (σ : St)  : Option (Int32 × St) :=
  fX6_goAlong_l22  FU (si (si (si (si σ 44 (0 : Int32)) 45 (-1 : Int32)) 46 (0 : Int32)) 47 (0 : Int32)) (0 : Int32)
abbrev rmX6_goAlong : Room := { frames := 3, cells := 0, slots := 0, locals := 65 }
set_option maxHeartbeats 4000000 in
set_option maxRecDepth 100000 in
theorem KX6_goAlong {l : Launch} {dC : Nat → ClassId} {dI : Nat → Nat → Nat} {cI cZ : ClassId} {a : Nat → Nat} {hh : Int64} {σ : St}  {r : Int32} {σ2 : St} (hok : okA 18 a) (h : fX6_goAlong σ  = some (r, σ2)) (sz : Nat) : Met l yX6_goAlong wsX6_goAlong rmX6_goAlong (Pz (dC, dI) cI cZ (wdM cI cZ a hh σ) sz [.ref (a 0)]) (Qzi (dC, dI) 18 a (wdM cI cZ a hh σ2) sz r) 0 0 (aN 18 a sz) := by
  refine Met.ofW (cc := cX6_goAlong) (maxL := 2) (ret := (some .int)) (by decide) rfl ?_
  intro p e s m args below meth c s₁ B hml hv
  obtain ⟨hav, hsz, hP, hKK⟩ := hv
  have hx := B.exec
  have hb := B.bytes
  have hr := B.returns
  have hts := atoms_spec (ws := wsX6_goAlong) B.pre
  have hown : s.vm.findClass RX6 = some m.cls := findClass_of_methodNamed B.named
  have hlocks := B.notSynchronized
  have CF : CallFix p m c cX6_goAlong 2 s args wsX6_goAlong RX6 := ⟨hx, hb, hml, hown, hts⟩
  have hz : zz (dC, dI) 18 a (wdM cI cZ a hh σ) s.heap s.heap [] := ⟨hP, va_S.rf⟩
  have hl := lv_entry [.ref (a 0)] (n := 2) (Nat.le_of_ble_eq_true rfl)
  have hen : entryFrame m args 2 = entryFrame m ([.ref (a 0)] : List Value).toArray 2 := by rw [hav]
  rw [hen, lg_entry_eq]
  generalize (lg_sl [.ref (a 0)] ++ List.replicate (2 - (lg_sl [.ref (a 0)]).length) Slot.unset).toArray = ls at hl ⊢
  have hl : lv_has ls 2 [(0, .ref (a 0))] := hl
  have eR : (headSpec wsX6_goAlong rmX6_goAlong).room = rmX6_goAlong := rfl
  rw [eR]
  have rt : ∀ (v : Int32) (t : St) (pc : Nat) (H : Heap) (locs : List Loc) (ls : Array Slot), decode cX6_goAlong pc = .ok (.ireturn, 1) → some (v, t) = some (r, σ2) → zz (dC, dI) 18 a (wdM cI cZ a hh t) s.heap H locs → W p l e rmX6_goAlong s m args below meth c H locs 0 0 (MQ below (Qzi (dC, dI) 18 a (wdM cI cZ a hh σ2) sz r) args s 0 0 (aN 18 a sz)) (F0 m pc ls [.int v]) := by
    intro v t pc H locs ls hd h hz
    cases h
    exact ziret hsz hx hb hr hlocks hz hd
  generalize (MQ below (Qzi (dC, dI) 18 a (wdM cI cZ a hh σ2) sz r) args s 0 0 (aN 18 a sz)) = Q at rt ⊢
  have s22 : ∀ (k22 : St → Int32 → Option (Int32 × St)) (hk22 : (∀ (σ : St) (y1 : Int32) (H : Heap) (locs : List Loc) (ls : Array Slot), k22 σ y1 = some (r, σ2) → zz (dC, dI) 18 a (wdM cI cZ a hh σ) s.heap H locs → lv_has ls 2 [(0, .ref (a 0)), (1, .int y1)] → W p l e rmX6_goAlong s m args below meth c H locs 0 0 Q (F0 m 22 ls []))) (σ : St) (y1 : Int32) (H : Heap) (locs : List Loc) (ls : Array Slot), fX6_goAlong_s22 k22 σ y1 = some (r, σ2) → zz (dC, dI) 18 a (wdM cI cZ a hh σ) s.heap H locs → lv_has ls 2 [(0, .ref (a 0)), (1, .int y1)] → W p l e rmX6_goAlong s m args below meth c H locs 0 0 Q (F0 m 22 ls []) := by
    intro k22 hk22 σ y1 H locs ls h hz hl
    unfold fX6_goAlong_s22 at h
    refine lv_iload_n hx hb dX6_goAlong_22 rfl (lv_at hl 1 rfl) ?_
    refine lv_aload_n hx hb dX6_goAlong_23 rfl (lv_at hl 0 rfl) ?_
    refine va_get (v := .int (σ 40 0)) hx hb hts inX6_goAlong_X6 hown hKK.1 hz.1 0 rfl rfl 0 (by decide) (hts _ (List.mem_of_getElem? (i := 5) rfl)) (fun _ h9 => h9) rfl dX6_goAlong_24 ?_
    refine lv_icmp_ge (tgt := 49) hx hb dX6_goAlong_27 (by decide) (fun c1 => ?_) (fun c1 => ?_)
    · replace h := ite_t c1 h
      refine lv_iload_n hx hb dX6_goAlong_49 rfl (lv_at hl 1 rfl) ?_
      exact rt y1 σ 50 _ _ _ dX6_goAlong_50 h hz
    · replace h := ite_f c1 h
      refine lv_aload_n hx hb dX6_goAlong_30 rfl (lv_at hl 0 rfl) ?_
      refine lv_aload_n hx hb dX6_goAlong_31 rfl (lv_at hl 0 rfl) ?_
      refine va_get (v := .ref (a 1)) hx hb hts inX6_goAlong_X6 hown hKK.1 hz.1 0 rfl rfl 1 (by decide) (hts _ (List.mem_of_getElem? (i := 6) rfl)) (fun _ h9 => h9) rfl dX6_goAlong_32 ?_
      refine lv_iload_n hx hb dX6_goAlong_35 rfl (lv_at hl 1 rfl) ?_
      obtain ⟨c2, h⟩ := ck_e h
      refine va_iald (f := (σ 1)) hx hb hKK.1 hz.1 1 0 rfl rfl c2 dX6_goAlong_36 ?_
      obtain ⟨r3, s4, e5, h⟩ := bd2_e h
      refine zcallVi (As := [.int ((σ 1) (Int32.toNatClampNeg y1))]) (rest := []) CF hKK (KX6_takes (dC := dC) (dI := dI) (cI := cI) (cZ := cZ) (a := a) hok e5) (cwV 1 hts gX6_goAlong_X6_takes rfl rfl rfl cdX6_takes ⟨Nat.le_of_ble_eq_true rfl, Nat.le_of_ble_eq_true rfl⟩) 0 6 rfl rfl hz rfl hl.1 rfl (Nat.le_of_ble_eq_true rfl) dX6_goAlong_37 ⟨Nat.le_refl _, Nat.le_refl _⟩ (fun H locs hz => ?_)
      refine lv_if_eq (tgt := 49) hx hb dX6_goAlong_40 (by decide) (fun c6 => ?_) (fun c6 => ?_)
      · replace h := ite_t c6 h
        refine lv_iload_n hx hb dX6_goAlong_49 rfl (lv_at hl 1 rfl) ?_
        exact rt y1 s4 50 _ _ _ dX6_goAlong_50 h hz
      · replace h := ite_f c6 h
        refine lv_iinc (v := (y1 + (1 : Int32))) (lv' := [(1, .int (y1 + (1 : Int32))), (0, .ref (a 0))]) hx hb dX6_goAlong_43 hl (k := 1) rfl rfl (by decide) rfl (fun ls hl => ?_)
        refine lv_goto (tgt := 22) hx hb dX6_goAlong_46 (by decide) ?_
        exact hk22 s4 (y1 + (1 : Int32)) _ _ _ h hz (lv_sub hl [1, 0] rfl)
  have l22 : ∀  (n : Nat), ∀ (σ : St) (y1 : Int32) (H : Heap) (locs : List Loc) (ls : Array Slot), fX6_goAlong_l22  n σ y1 = some (r, σ2) → zz (dC, dI) 18 a (wdM cI cZ a hh σ) s.heap H locs → lv_has ls 2 [(0, .ref (a 0)), (1, .int y1)] → W p l e rmX6_goAlong s m args below meth c H locs 0 0 Q (F0 m 22 ls []) := by
    intro  n
    induction n with
    | zero => intro σ y1 H locs ls h; exact nomatch h
    | succ n ih => exact s22  (fX6_goAlong_l22  n) ih
  unfold fX6_goAlong at h
  refine lv_aload_n hx hb dX6_goAlong_0 rfl (lv_at hl 0 rfl) ?_
  refine lv_iconst (v := (0 : Int32)) hx hb dX6_goAlong_1 (by decide) ?_
  refine zput (ty := .int) (w' := wdM cI cZ a hh (si σ 44 (0 : Int32))) hx hb hts inX6_goAlong_X6 tyX6 tyX6_ok nmX6 hown hKK hok wkM hz 0 rfl rfl 8 (by decide) (hts _ (List.mem_of_getElem? (i := 1) rfl)) (fun _ h9 => h9) rfl rfl rfl rfl (Nat.le_of_ble_eq_true rfl) setMi_44 dX6_goAlong_2 (fun H locs hz => ?_)
  refine lv_aload_n hx hb dX6_goAlong_5 rfl (lv_at hl 0 rfl) ?_
  refine lv_iconst (v := (-1 : Int32)) hx hb dX6_goAlong_6 (by decide) ?_
  refine zput (ty := .int) (w' := wdM cI cZ a hh (si (si σ 44 (0 : Int32)) 45 (-1 : Int32))) hx hb hts inX6_goAlong_X6 tyX6 tyX6_ok nmX6 hown hKK hok wkM hz 0 rfl rfl 11 (by decide) (hts _ (List.mem_of_getElem? (i := 2) rfl)) (fun _ h9 => h9) rfl rfl rfl rfl (Nat.le_of_ble_eq_true rfl) setMi_45 dX6_goAlong_7 (fun H locs hz => ?_)
  refine lv_aload_n hx hb dX6_goAlong_10 rfl (lv_at hl 0 rfl) ?_
  refine lv_iconst (v := (0 : Int32)) hx hb dX6_goAlong_11 (by decide) ?_
  refine zput (ty := .int) (w' := wdM cI cZ a hh (si (si (si σ 44 (0 : Int32)) 45 (-1 : Int32)) 46 (0 : Int32))) hx hb hts inX6_goAlong_X6 tyX6 tyX6_ok nmX6 hown hKK hok wkM hz 0 rfl rfl 12 (by decide) (hts _ (List.mem_of_getElem? (i := 3) rfl)) (fun _ h9 => h9) rfl rfl rfl rfl (Nat.le_of_ble_eq_true rfl) setMi_46 dX6_goAlong_12 (fun H locs hz => ?_)
  refine lv_aload_n hx hb dX6_goAlong_15 rfl (lv_at hl 0 rfl) ?_
  refine lv_iconst (v := (0 : Int32)) hx hb dX6_goAlong_16 (by decide) ?_
  refine zput (ty := .int) (w' := wdM cI cZ a hh (si (si (si (si σ 44 (0 : Int32)) 45 (-1 : Int32)) 46 (0 : Int32)) 47 (0 : Int32))) hx hb hts inX6_goAlong_X6 tyX6 tyX6_ok nmX6 hown hKK hok wkM hz 0 rfl rfl 13 (by decide) (hts _ (List.mem_of_getElem? (i := 4) rfl)) (fun _ h9 => h9) rfl rfl rfl rfl (Nat.le_of_ble_eq_true rfl) setMi_47 dX6_goAlong_17 (fun H locs hz => ?_)
  refine lv_iconst (v := (0 : Int32)) hx hb dX6_goAlong_20 (by decide) ?_
  refine lv_istore_n (lv' := [(1, .int (0 : Int32)), (0, .ref (a 0))]) hx hb dX6_goAlong_21 rfl hl (by decide) rfl (fun ls hl => ?_)
  exact l22  FU (si (si (si (si σ 44 (0 : Int32)) 45 (-1 : Int32)) 46 (0 : Int32)) 47 (0 : Int32)) (0 : Int32) _ _ _ h hz (lv_sub hl [1, 0] rfl)
def fX6_fault (σ : St)  : Option (Int32 × St) :=
  (bd2 (fX6_goAlong σ ) fun r1 s2 => some (r1, s2))
abbrev rmX6_fault : Room := { frames := 4, cells := 0, slots := 0, locals := 86 }
set_option maxHeartbeats 4000000 in
set_option maxRecDepth 100000 in
theorem KX6_fault {l : Launch} {dC : Nat → ClassId} {dI : Nat → Nat → Nat} {cI cZ : ClassId} {a : Nat → Nat} {hh : Int64} {σ : St}  {r : Int32} {σ2 : St} (hok : okA 18 a) (h : fX6_fault σ  = some (r, σ2)) (sz : Nat) : Met l yX6_fault wsX6_fault rmX6_fault (Pz (dC, dI) cI cZ (wdM cI cZ a hh σ) sz [.ref (a 0)]) (Qzi (dC, dI) 18 a (wdM cI cZ a hh σ2) sz r) 0 0 (aN 18 a sz) := by
  refine Met.ofW (cc := cX6_fault) (maxL := 1) (ret := (some .int)) (by decide) rfl ?_
  intro p e s m args below meth c s₁ B hml hv
  obtain ⟨hav, hsz, hP, hKK⟩ := hv
  have hx := B.exec
  have hb := B.bytes
  have hr := B.returns
  have hts := atoms_spec (ws := wsX6_fault) B.pre
  have hown : s.vm.findClass RX6 = some m.cls := findClass_of_methodNamed B.named
  have hlocks := B.notSynchronized
  have CF : CallFix p m c cX6_fault 1 s args wsX6_fault RX6 := ⟨hx, hb, hml, hown, hts⟩
  have hz : zz (dC, dI) 18 a (wdM cI cZ a hh σ) s.heap s.heap [] := ⟨hP, va_S.rf⟩
  have hl := lv_entry [.ref (a 0)] (n := 1) (Nat.le_of_ble_eq_true rfl)
  have hen : entryFrame m args 1 = entryFrame m ([.ref (a 0)] : List Value).toArray 1 := by rw [hav]
  rw [hen, lg_entry_eq]
  generalize (lg_sl [.ref (a 0)] ++ List.replicate (1 - (lg_sl [.ref (a 0)]).length) Slot.unset).toArray = ls at hl ⊢
  have hl : lv_has ls 1 [(0, .ref (a 0))] := hl
  have eR : (headSpec wsX6_fault rmX6_fault).room = rmX6_fault := rfl
  rw [eR]
  have rt : ∀ (v : Int32) (t : St) (pc : Nat) (H : Heap) (locs : List Loc) (ls : Array Slot), decode cX6_fault pc = .ok (.ireturn, 1) → some (v, t) = some (r, σ2) → zz (dC, dI) 18 a (wdM cI cZ a hh t) s.heap H locs → W p l e rmX6_fault s m args below meth c H locs 0 0 (MQ below (Qzi (dC, dI) 18 a (wdM cI cZ a hh σ2) sz r) args s 0 0 (aN 18 a sz)) (F0 m pc ls [.int v]) := by
    intro v t pc H locs ls hd h hz
    cases h
    exact ziret hsz hx hb hr hlocks hz hd
  generalize (MQ below (Qzi (dC, dI) 18 a (wdM cI cZ a hh σ2) sz r) args s 0 0 (aN 18 a sz)) = Q at rt ⊢
  unfold fX6_fault at h
  refine lv_aload_n hx hb dX6_fault_0 rfl (lv_at hl 0 rfl) ?_
  obtain ⟨r1, s2, e3, h⟩ := bd2_e h
  refine zcallVi (As := []) (rest := []) CF hKK (KX6_goAlong (dC := dC) (dI := dI) (cI := cI) (cZ := cZ) (a := a) hok e3) (cwV 0 hts gX6_fault_X6_goAlong rfl rfl rfl cdX6_goAlong ⟨Nat.le_of_ble_eq_true rfl, Nat.le_of_ble_eq_true rfl⟩) 0 6 rfl rfl hz rfl hl.1 rfl (Nat.le_of_ble_eq_true rfl) dX6_fault_1 ⟨Nat.le_refl _, Nat.le_refl _⟩ (fun H locs hz => ?_)
  exact rt r1 s2 4 _ _ _ dX6_fault_4 h hz
def fX6_up (σ : St) (x1 : Int32) (x2 : Int32) : Option (Int32) :=
  (ck (¬ x2 = 0) <| some ((((x1 + x2) - (1 : Int32)) / x2) * x2))
abbrev rmX6_up : Room := { frames := 0, cells := 0, slots := 0, locals := 0 }
set_option maxHeartbeats 4000000 in
set_option maxRecDepth 100000 in
theorem KX6_up {l : Launch} {dC : Nat → ClassId} {dI : Nat → Nat → Nat} {cI cZ : ClassId} {a : Nat → Nat} {hh : Int64} {σ : St} {x1 : Int32} {x2 : Int32} {r : Int32} (hok : okA 18 a) (h : fX6_up σ x1 x2 = some r) (sz : Nat) : Met l yX6_up wsX6_up rmX6_up (Pz (dC, dI) cI cZ (wdM cI cZ a hh σ) sz [.int x1, .int x2]) (Qzi (dC, dI) 18 a (wdM cI cZ a hh σ) sz r) 0 0 (aN 18 a sz) := by
  refine Met.ofW (cc := cX6_up) (maxL := 2) (ret := (some .int)) (by decide) rfl ?_
  intro p e s m args below meth c s₁ B hml hv
  obtain ⟨hav, hsz, hP, hKK⟩ := hv
  have hx := B.exec
  have hb := B.bytes
  have hr := B.returns
  have hts := atoms_spec (ws := wsX6_up) B.pre
  have hown : s.vm.findClass RX6 = some m.cls := findClass_of_methodNamed B.named
  have hlocks := B.notSynchronized
  have CF : CallFix p m c cX6_up 2 s args wsX6_up RX6 := ⟨hx, hb, hml, hown, hts⟩
  have hz : zz (dC, dI) 18 a (wdM cI cZ a hh σ) s.heap s.heap [] := ⟨hP, va_S.rf⟩
  have hl := lv_entry [.int x1, .int x2] (n := 2) (Nat.le_of_ble_eq_true rfl)
  have hen : entryFrame m args 2 = entryFrame m ([.int x1, .int x2] : List Value).toArray 2 := by rw [hav]
  rw [hen, lg_entry_eq]
  generalize (lg_sl [.int x1, .int x2] ++ List.replicate (2 - (lg_sl [.int x1, .int x2]).length) Slot.unset).toArray = ls at hl ⊢
  have hl : lv_has ls 2 [(0, .int x1), (1, .int x2)] := hl
  have eR : (headSpec wsX6_up rmX6_up).room = rmX6_up := rfl
  rw [eR]
  have rt : ∀ (v : Int32) (t : St) (pc : Nat) (H : Heap) (locs : List Loc) (ls : Array Slot), decode cX6_up pc = .ok (.ireturn, 1) → some v = some r → zz (dC, dI) 18 a (wdM cI cZ a hh σ) s.heap H locs → W p l e rmX6_up s m args below meth c H locs 0 0 (MQ below (Qzi (dC, dI) 18 a (wdM cI cZ a hh σ) sz r) args s 0 0 (aN 18 a sz)) (F0 m pc ls [.int v]) := by
    intro v t pc H locs ls hd h hz
    cases h
    exact ziret hsz hx hb hr hlocks hz hd
  generalize (MQ below (Qzi (dC, dI) 18 a (wdM cI cZ a hh σ) sz r) args s 0 0 (aN 18 a sz)) = Q at rt ⊢
  unfold fX6_up at h
  refine lv_iload_n hx hb dX6_up_0 rfl (lv_at hl 0 rfl) ?_
  refine lv_iload_n hx hb dX6_up_1 rfl (lv_at hl 1 rfl) ?_
  refine lv_iadd hx hb dX6_up_2 ?_
  refine lv_iconst (v := (1 : Int32)) hx hb dX6_up_3 (by decide) ?_
  refine lv_isub hx hb dX6_up_4 ?_
  refine lv_iload_n hx hb dX6_up_5 rfl (lv_at hl 1 rfl) ?_
  obtain ⟨c1, h⟩ := ck_e h
  refine lv_idiv hx hb dX6_up_6 c1 ?_
  refine lv_iload_n hx hb dX6_up_7 rfl (lv_at hl 1 rfl) ?_
  refine lv_imul hx hb dX6_up_8 ?_
  exact rt ((((x1 + x2) - (1 : Int32)) / x2) * x2) σ 9 _ _ _ dX6_up_9 h hz
def fX6_sizeOf (σ : St) (x1 : Int32) (x2 : Int32) : Option (Int32) :=
  (ck (¬ (x1 < 0 ∨ 24 ≤ Int32.toNatClampNeg x1)) <| (if ((σ 2) (Int32.toNatClampNeg x1)) = (0 : Int32) then ((ck (¬ (x1 < 0 ∨ 24 ≤ Int32.toNatClampNeg x1)) <| some ((σ 3) (Int32.toNatClampNeg x1)))) else (if ((σ 2) (Int32.toNatClampNeg x1)) = (2 : Int32) then ((ck (¬ (x1 < 0 ∨ 24 ≤ Int32.toNatClampNeg x1)) <| (if ((σ 7) (Int32.toNatClampNeg x1)) = 0 then (some (2 : Int32)) else (some (4 : Int32))))) else (if ((σ 2) (Int32.toNatClampNeg x1)) = (3 : Int32) then (some (0 : Int32)) else (if ((σ 2) (Int32.toNatClampNeg x1)) = (4 : Int32) then ((ck (¬ (x1 < 0 ∨ 24 ≤ Int32.toNatClampNeg x1)) <| (bd1 (fX6_up σ x2 ((σ 3) (Int32.toNatClampNeg x1))) fun r10 => some (r10 - x2)))) else some (2 : Int32))))))
abbrev rmX6_sizeOf : Room := { frames := 1, cells := 0, slots := 0, locals := 21 }
set_option maxHeartbeats 4000000 in
set_option maxRecDepth 100000 in
theorem KX6_sizeOf {l : Launch} {dC : Nat → ClassId} {dI : Nat → Nat → Nat} {cI cZ : ClassId} {a : Nat → Nat} {hh : Int64} {σ : St} {x1 : Int32} {x2 : Int32} {r : Int32} (hok : okA 18 a) (h : fX6_sizeOf σ x1 x2 = some r) (sz : Nat) : Met l yX6_sizeOf wsX6_sizeOf rmX6_sizeOf (Pz (dC, dI) cI cZ (wdM cI cZ a hh σ) sz [.ref (a 0), .int x1, .int x2]) (Qzi (dC, dI) 18 a (wdM cI cZ a hh σ) sz r) 0 0 (aN 18 a sz) := by
  refine Met.ofW (cc := cX6_sizeOf) (maxL := 3) (ret := (some .int)) (by decide) rfl ?_
  intro p e s m args below meth c s₁ B hml hv
  obtain ⟨hav, hsz, hP, hKK⟩ := hv
  have hx := B.exec
  have hb := B.bytes
  have hr := B.returns
  have hts := atoms_spec (ws := wsX6_sizeOf) B.pre
  have hown : s.vm.findClass RX6 = some m.cls := findClass_of_methodNamed B.named
  have hlocks := B.notSynchronized
  have CF : CallFix p m c cX6_sizeOf 3 s args wsX6_sizeOf RX6 := ⟨hx, hb, hml, hown, hts⟩
  have hz : zz (dC, dI) 18 a (wdM cI cZ a hh σ) s.heap s.heap [] := ⟨hP, va_S.rf⟩
  have hl := lv_entry [.ref (a 0), .int x1, .int x2] (n := 3) (Nat.le_of_ble_eq_true rfl)
  have hen : entryFrame m args 3 = entryFrame m ([.ref (a 0), .int x1, .int x2] : List Value).toArray 3 := by rw [hav]
  rw [hen, lg_entry_eq]
  generalize (lg_sl [.ref (a 0), .int x1, .int x2] ++ List.replicate (3 - (lg_sl [.ref (a 0), .int x1, .int x2]).length) Slot.unset).toArray = ls at hl ⊢
  have hl : lv_has ls 3 [(0, .ref (a 0)), (1, .int x1), (2, .int x2)] := hl
  have eR : (headSpec wsX6_sizeOf rmX6_sizeOf).room = rmX6_sizeOf := rfl
  rw [eR]
  have rt : ∀ (v : Int32) (t : St) (pc : Nat) (H : Heap) (locs : List Loc) (ls : Array Slot), decode cX6_sizeOf pc = .ok (.ireturn, 1) → some v = some r → zz (dC, dI) 18 a (wdM cI cZ a hh σ) s.heap H locs → W p l e rmX6_sizeOf s m args below meth c H locs 0 0 (MQ below (Qzi (dC, dI) 18 a (wdM cI cZ a hh σ) sz r) args s 0 0 (aN 18 a sz)) (F0 m pc ls [.int v]) := by
    intro v t pc H locs ls hd h hz
    cases h
    exact ziret hsz hx hb hr hlocks hz hd
  generalize (MQ below (Qzi (dC, dI) 18 a (wdM cI cZ a hh σ) sz r) args s 0 0 (aN 18 a sz)) = Q at rt ⊢
  unfold fX6_sizeOf at h
  refine lv_aload_n hx hb dX6_sizeOf_0 rfl (lv_at hl 0 rfl) ?_
  refine va_get (v := .ref (a 2)) hx hb hts inX6_sizeOf_X6 hown hKK.1 hz.1 0 rfl rfl 3 (by decide) (hts _ (List.mem_of_getElem? (i := 1) rfl)) (fun _ h9 => h9) rfl dX6_sizeOf_1 ?_
  refine lv_iload_n hx hb dX6_sizeOf_4 rfl (lv_at hl 1 rfl) ?_
  obtain ⟨c1, h⟩ := ck_e h
  refine va_iald (f := (σ 2)) hx hb hKK.1 hz.1 2 0 rfl rfl c1 dX6_sizeOf_5 ?_
  by_cases c2 : ((σ 2) (Int32.toNatClampNeg x1)) = (0 : Int32)
  · replace h := ite_t c2 h
    refine lv_tableIn (tgt := 40) (off := 34) hx hb dX6_sizeOf_6 (by rw [c2]; decide) (by rw [c2]; decide) (by rw [c2]; rfl) (by decide) ?_
    refine lv_aload_n hx hb dX6_sizeOf_40 rfl (lv_at hl 0 rfl) ?_
    refine va_get (v := .ref (a 3)) hx hb hts inX6_sizeOf_X6 hown hKK.1 hz.1 0 rfl rfl 4 (by decide) (hts _ (List.mem_of_getElem? (i := 2) rfl)) (fun _ h9 => h9) rfl dX6_sizeOf_41 ?_
    refine lv_iload_n hx hb dX6_sizeOf_44 rfl (lv_at hl 1 rfl) ?_
    obtain ⟨c3, h⟩ := ck_e h
    refine va_iald (f := (σ 3)) hx hb hKK.1 hz.1 3 0 rfl rfl c3 dX6_sizeOf_45 ?_
    exact rt ((σ 3) (Int32.toNatClampNeg x1)) σ 46 _ _ _ dX6_sizeOf_46 h hz
  replace h := ite_f c2 h
  by_cases c4 : ((σ 2) (Int32.toNatClampNeg x1)) = (2 : Int32)
  · replace h := ite_t c4 h
    refine lv_tableIn (tgt := 47) (off := 41) hx hb dX6_sizeOf_6 (by rw [c4]; decide) (by rw [c4]; decide) (by rw [c4]; rfl) (by decide) ?_
    refine lv_aload_n hx hb dX6_sizeOf_47 rfl (lv_at hl 0 rfl) ?_
    refine va_get (v := .ref (a 7)) hx hb hts inX6_sizeOf_X6 hown hKK.1 hz.1 0 rfl rfl 14 (by decide) (hts _ (List.mem_of_getElem? (i := 3) rfl)) (fun _ h9 => h9) rfl dX6_sizeOf_48 ?_
    refine lv_iload_n hx hb dX6_sizeOf_51 rfl (lv_at hl 1 rfl) ?_
    obtain ⟨c5, h⟩ := ck_e h
    refine va_zald (f := (σ 7)) hx hb hKK.1 hz.1 7 1 rfl rfl c5 dX6_sizeOf_52 ?_
    refine lv_if_eq (tgt := 60) hx hb dX6_sizeOf_53 (by decide) (fun c6 => ?_) (fun c6 => ?_)
    · replace h := ite_t c6 h
      refine lv_iconst (v := (2 : Int32)) hx hb dX6_sizeOf_60 (by decide) ?_
      exact rt (2 : Int32) σ 61 _ _ _ dX6_sizeOf_61 h hz
    · replace h := ite_f c6 h
      refine lv_iconst (v := (4 : Int32)) hx hb dX6_sizeOf_56 (by decide) ?_
      refine lv_goto (tgt := 61) hx hb dX6_sizeOf_57 (by decide) ?_
      exact rt (4 : Int32) σ 61 _ _ _ dX6_sizeOf_61 h hz
  replace h := ite_f c4 h
  by_cases c7 : ((σ 2) (Int32.toNatClampNeg x1)) = (3 : Int32)
  · replace h := ite_t c7 h
    refine lv_tableIn (tgt := 62) (off := 56) hx hb dX6_sizeOf_6 (by rw [c7]; decide) (by rw [c7]; decide) (by rw [c7]; rfl) (by decide) ?_
    refine lv_iconst (v := (0 : Int32)) hx hb dX6_sizeOf_62 (by decide) ?_
    exact rt (0 : Int32) σ 63 _ _ _ dX6_sizeOf_63 h hz
  replace h := ite_f c7 h
  by_cases c8 : ((σ 2) (Int32.toNatClampNeg x1)) = (4 : Int32)
  · replace h := ite_t c8 h
    refine lv_tableIn (tgt := 64) (off := 58) hx hb dX6_sizeOf_6 (by rw [c8]; decide) (by rw [c8]; decide) (by rw [c8]; rfl) (by decide) ?_
    refine lv_iload_n hx hb dX6_sizeOf_64 rfl (lv_at hl 2 rfl) ?_
    refine lv_aload_n hx hb dX6_sizeOf_65 rfl (lv_at hl 0 rfl) ?_
    refine va_get (v := .ref (a 3)) hx hb hts inX6_sizeOf_X6 hown hKK.1 hz.1 0 rfl rfl 4 (by decide) (hts _ (List.mem_of_getElem? (i := 2) rfl)) (fun _ h9 => h9) rfl dX6_sizeOf_66 ?_
    refine lv_iload_n hx hb dX6_sizeOf_69 rfl (lv_at hl 1 rfl) ?_
    obtain ⟨c9, h⟩ := ck_e h
    refine va_iald (f := (σ 3)) hx hb hKK.1 hz.1 3 0 rfl rfl c9 dX6_sizeOf_70 ?_
    obtain ⟨r10, e12, h⟩ := bd1_e h
    refine zcallSi (As := [.int x2, .int ((σ 3) (Int32.toNatClampNeg x1))]) (rest := []) CF hKK (KX6_up (dC := dC) (dI := dI) (cI := cI) (cZ := cZ) (a := a) hok e12) (va_cwS 2 hts gX6_sizeOf_X6_up rfl rfl rfl cdX6_up.2 ⟨Nat.le_of_ble_eq_true rfl, Nat.le_of_ble_eq_true rfl⟩) hz rfl hl.1 rfl (Nat.le_of_ble_eq_true rfl) dX6_sizeOf_71 ⟨Nat.le_refl _, Nat.le_refl _⟩ (fun H locs hz => ?_)
    refine lv_iload_n hx hb dX6_sizeOf_74 rfl (lv_at hl 2 rfl) ?_
    refine lv_isub hx hb dX6_sizeOf_75 ?_
    exact rt (r10 - x2) σ 76 _ _ _ dX6_sizeOf_76 h hz
  replace h := ite_f c8 h
  by_cases c13 : ((σ 2) (Int32.toNatClampNeg x1)) = (1 : Int32)
  · refine lv_tableIn (tgt := 77) (off := 71) hx hb dX6_sizeOf_6 (by rw [c13]; decide) (by rw [c13]; decide) (by rw [c13]; rfl) (by decide) ?_
    refine lv_iconst (v := (2 : Int32)) hx hb dX6_sizeOf_77 (by decide) ?_
    exact rt (2 : Int32) σ 78 _ _ _ dX6_sizeOf_78 h hz
  refine lv_tableOut (tgt := 77) hx hb dX6_sizeOf_6 (by have := lv_neT c2 (a := 0) rfl; have := lv_neT c4 (a := 2) rfl; have := lv_neT c7 (a := 3) rfl; have := lv_neT c8 (a := 4) rfl; have := lv_neT c13 (a := 1) rfl; omega) (by decide) ?_
  refine lv_iconst (v := (2 : Int32)) hx hb dX6_sizeOf_77 (by decide) ?_
  exact rt (2 : Int32) σ 78 _ _ _ dX6_sizeOf_78 h hz
def fX6_layGap_b96 (k55 : St → Int32 → Int32 → Int32 → Int32 → Option (Int32 × St)) (σ : St) (y1 : Int32) (y3 : Int32) (y5 : Int32) (t0 : Int32) (t1 : Int32) : Option (Int32 × St) :=
  (bd1 (fX6_up (si σ 51 (t1 + t0)) y3 (4 : Int32)) fun r14 => (ck (¬ (y5 < 0 ∨ 16 ≤ Int32.toNatClampNeg y5)) <| k55 (sa (si σ 51 (t1 + t0)) 14 (Int32.toNatClampNeg y5) r14) y1 (r14 + (4 : Int32)) (1 : Int32) (y5 + (1 : Int32))))
def fX6_layGap_s55 (k55 : St → Int32 → Int32 → Int32 → Int32 → Option (Int32 × St)) (σ : St) (y1 : Int32) (y3 : Int32) (y4 : Int32) (y5 : Int32) : Option (Int32 × St) :=
  (if (σ 49 0) ≤ y5 then ((bd1 (fX6_up σ y3 (4 : Int32)) fun r4 => (ck (¬ (y1 < 0 ∨ 24 ≤ Int32.toNatClampNeg y1)) <| some (y3, (sa σ 16 (Int32.toNatClampNeg y1) r4))))) else ((ck (¬ (y5 < 0 ∨ 16 ≤ Int32.toNatClampNeg y5)) <| (if ((σ 11) (Int32.toNatClampNeg y5)) = y1 then ((if y4 = 0 then ((bd1 (fX6_up σ y3 (4 : Int32)) fun r11 => fX6_layGap_b96 k55 σ y1 y3 y5 (r11 - y3) (σ 51 0))) else (fX6_layGap_b96 k55 σ y1 y3 y5 (0 : Int32) (σ 51 0)))) else (k55 σ y1 y3 y4 (y5 + (1 : Int32)))))))
def fX6_layGap_l55  : Nat → St → Int32 → Int32 → Int32 → Int32 → Option (Int32 × St) :=
  itr (fX6_layGap_s55 ) (fun _ _ _ _ _ => none)
def fX6_layGap_s5 (k5 : St → Int32 → Int32 → Int32 → Option (Int32 × St)) (σ : St) (y1 : Int32) (y3 : Int32) (y4 : Int32) : Option (Int32 × St) :=
  (if (σ 48 0) ≤ y4 then ((ck (¬ (y1 < 0 ∨ 24 ≤ Int32.toNatClampNeg y1)) <| fX6_layGap_l55  FU (sa σ 15 (Int32.toNatClampNeg y1) y3) y1 y3 (0 : Int32) (0 : Int32))) else ((ck (¬ (y4 < 0 ∨ 12 ≤ Int32.toNatClampNeg y4)) <| (if ((σ 9) (Int32.toNatClampNeg y4)) = y1 then ((ck (¬ (y4 < 0 ∨ 12 ≤ Int32.toNatClampNeg y4)) <| k5 (sa σ 13 (Int32.toNatClampNeg y4) y3) y1 (y3 + (4 : Int32)) (y4 + (1 : Int32)))) else (k5 σ y1 y3 (y4 + (1 : Int32)))))))
def fX6_layGap_l5  : Nat → St → Int32 → Int32 → Int32 → Option (Int32 × St) :=
  itr (fX6_layGap_s5 ) (fun _ _ _ _ => none)
def fX6_layGap (σ : St) (x1 : Int32) (x2 : Int32) : Option (Int32 × St) :=
  fX6_layGap_l5  FU σ x1 x2 (0 : Int32)
abbrev rmX6_layGap : Room := { frames := 1, cells := 0, slots := 0, locals := 21 }
set_option maxHeartbeats 4000000 in
set_option maxRecDepth 100000 in
theorem KX6_layGap {l : Launch} {dC : Nat → ClassId} {dI : Nat → Nat → Nat} {cI cZ : ClassId} {a : Nat → Nat} {hh : Int64} {σ : St} {x1 : Int32} {x2 : Int32} {r : Int32} {σ2 : St} (hok : okA 18 a) (h : fX6_layGap σ x1 x2 = some (r, σ2)) (sz : Nat) : Met l yX6_layGap wsX6_layGap rmX6_layGap (Pz (dC, dI) cI cZ (wdM cI cZ a hh σ) sz [.ref (a 0), .int x1, .int x2]) (Qzi (dC, dI) 18 a (wdM cI cZ a hh σ2) sz r) 0 0 (aN 18 a sz) := by
  refine Met.ofW (cc := cX6_layGap) (maxL := 6) (ret := (some .int)) (by decide) rfl ?_
  intro p e s m args below meth c s₁ B hml hv
  obtain ⟨hav, hsz, hP, hKK⟩ := hv
  have hx := B.exec
  have hb := B.bytes
  have hr := B.returns
  have hts := atoms_spec (ws := wsX6_layGap) B.pre
  have hown : s.vm.findClass RX6 = some m.cls := findClass_of_methodNamed B.named
  have hlocks := B.notSynchronized
  have CF : CallFix p m c cX6_layGap 6 s args wsX6_layGap RX6 := ⟨hx, hb, hml, hown, hts⟩
  have hz : zz (dC, dI) 18 a (wdM cI cZ a hh σ) s.heap s.heap [] := ⟨hP, va_S.rf⟩
  have hl := lv_entry [.ref (a 0), .int x1, .int x2] (n := 6) (Nat.le_of_ble_eq_true rfl)
  have hen : entryFrame m args 6 = entryFrame m ([.ref (a 0), .int x1, .int x2] : List Value).toArray 6 := by rw [hav]
  rw [hen, lg_entry_eq]
  generalize (lg_sl [.ref (a 0), .int x1, .int x2] ++ List.replicate (6 - (lg_sl [.ref (a 0), .int x1, .int x2]).length) Slot.unset).toArray = ls at hl ⊢
  have hl : lv_has ls 6 [(0, .ref (a 0)), (1, .int x1), (2, .int x2)] := hl
  have eR : (headSpec wsX6_layGap rmX6_layGap).room = rmX6_layGap := rfl
  rw [eR]
  have rt : ∀ (v : Int32) (t : St) (pc : Nat) (H : Heap) (locs : List Loc) (ls : Array Slot), decode cX6_layGap pc = .ok (.ireturn, 1) → some (v, t) = some (r, σ2) → zz (dC, dI) 18 a (wdM cI cZ a hh t) s.heap H locs → W p l e rmX6_layGap s m args below meth c H locs 0 0 (MQ below (Qzi (dC, dI) 18 a (wdM cI cZ a hh σ2) sz r) args s 0 0 (aN 18 a sz)) (F0 m pc ls [.int v]) := by
    intro v t pc H locs ls hd h hz
    cases h
    exact ziret hsz hx hb hr hlocks hz hd
  generalize (MQ below (Qzi (dC, dI) 18 a (wdM cI cZ a hh σ2) sz r) args s 0 0 (aN 18 a sz)) = Q at rt ⊢
  have b96 : ∀ (k55 : St → Int32 → Int32 → Int32 → Int32 → Option (Int32 × St)) (hk55 : (∀ (σ : St) (y1 : Int32) (y3 : Int32) (y4 : Int32) (y5 : Int32) (H : Heap) (locs : List Loc) (ls : Array Slot), k55 σ y1 y3 y4 y5 = some (r, σ2) → zz (dC, dI) 18 a (wdM cI cZ a hh σ) s.heap H locs → lv_has ls 6 [(0, .ref (a 0)), (1, .int y1), (3, .int y3), (4, .int y4), (5, .int y5)] → W p l e rmX6_layGap s m args below meth c H locs 0 0 Q (F0 m 55 ls []))) (σ : St) (y1 : Int32) (y3 : Int32) (y5 : Int32) (t0 : Int32) (t1 : Int32) (H : Heap) (locs : List Loc) (ls : Array Slot), fX6_layGap_b96 k55 σ y1 y3 y5 t0 t1 = some (r, σ2) → zz (dC, dI) 18 a (wdM cI cZ a hh σ) s.heap H locs → lv_has ls 6 [(0, .ref (a 0)), (1, .int y1), (3, .int y3), (5, .int y5)] → W p l e rmX6_layGap s m args below meth c H locs 0 0 Q (F0 m 96 ls [.int t0, .int t1, .ref (a 0)]) := by
    intro k55 hk55 σ y1 y3 y5 t0 t1 H locs ls h hz hl
    unfold fX6_layGap_b96 at h
    refine lv_iadd hx hb dX6_layGap_96 ?_
    refine zput (ty := .int) (w' := wdM cI cZ a hh (si σ 51 (t1 + t0))) hx hb hts inX6_layGap_X6 tyX6 tyX6_ok nmX6 hown hKK hok wkM hz 0 rfl rfl 28 (by decide) (hts _ (List.mem_of_getElem? (i := 7) rfl)) (fun _ h9 => h9) rfl rfl rfl rfl (Nat.le_of_ble_eq_true rfl) setMi_51 dX6_layGap_97 (fun H locs hz => ?_)
    refine lv_iload_n hx hb dX6_layGap_100 rfl (lv_at hl 2 rfl) ?_
    refine lv_iconst (v := (4 : Int32)) hx hb dX6_layGap_101 (by decide) ?_
    obtain ⟨r14, e16, h⟩ := bd1_e h
    refine zcallSi (As := [.int y3, .int (4 : Int32)]) (rest := []) CF hKK (KX6_up (dC := dC) (dI := dI) (cI := cI) (cZ := cZ) (a := a) hok e16) (va_cwS 2 hts gX6_layGap_X6_up rfl rfl rfl cdX6_up.2 ⟨Nat.le_of_ble_eq_true rfl, Nat.le_of_ble_eq_true rfl⟩) hz rfl hl.1 rfl (Nat.le_of_ble_eq_true rfl) dX6_layGap_102 ⟨Nat.le_refl _, Nat.le_refl _⟩ (fun H locs hz => ?_)
    refine lv_istore_n (lv' := [(3, .int r14), (0, .ref (a 0)), (1, .int y1), (5, .int y5)]) hx hb dX6_layGap_105 rfl hl (by decide) rfl (fun ls hl => ?_)
    refine lv_aload_n hx hb dX6_layGap_106 rfl (lv_at hl 1 rfl) ?_
    refine va_get (v := .ref (a 14)) hx hb hts inX6_layGap_X6 hown hKK.1 hz.1 0 rfl rfl 23 (by decide) (hts _ (List.mem_of_getElem? (i := 8) rfl)) (fun _ h9 => h9) rfl dX6_layGap_107 ?_
    refine lv_iload hx hb dX6_layGap_110 (lv_at hl 3 rfl) ?_
    refine lv_iload_n hx hb dX6_layGap_112 rfl (lv_at hl 0 rfl) ?_
    obtain ⟨c17, h⟩ := ck_e h
    refine ziast (f := (si σ 51 (t1 + t0)) 14) (w' := wdM cI cZ a hh (sa (si σ 51 (t1 + t0)) 14 (Int32.toNatClampNeg y5) r14)) hx hb hKK hok wkM hz 14 rfl c17 setMa_14 dX6_layGap_113 (fun H locs hz => ?_)
    refine lv_iinc (v := (r14 + (4 : Int32))) (lv' := [(3, .int (r14 + (4 : Int32))), (0, .ref (a 0)), (1, .int y1), (5, .int y5)]) hx hb dX6_layGap_114 hl (k := 0) rfl rfl (by decide) rfl (fun ls hl => ?_)
    refine lv_iconst (v := (1 : Int32)) hx hb dX6_layGap_117 (by decide) ?_
    refine lv_istore (lv' := [(4, .int (1 : Int32)), (3, .int (r14 + (4 : Int32))), (0, .ref (a 0)), (1, .int y1), (5, .int y5)]) hx hb dX6_layGap_118 hl (by decide) rfl (fun ls hl => ?_)
    refine lv_iinc (v := (y5 + (1 : Int32))) (lv' := [(5, .int (y5 + (1 : Int32))), (4, .int (1 : Int32)), (3, .int (r14 + (4 : Int32))), (0, .ref (a 0)), (1, .int y1)]) hx hb dX6_layGap_120 hl (k := 4) rfl rfl (by decide) rfl (fun ls hl => ?_)
    refine lv_goto (tgt := 55) hx hb dX6_layGap_123 (by decide) ?_
    exact hk55 (sa (si σ 51 (t1 + t0)) 14 (Int32.toNatClampNeg y5) r14) y1 (r14 + (4 : Int32)) (1 : Int32) (y5 + (1 : Int32)) _ _ _ h hz (lv_sub hl [3, 4, 2, 1, 0] rfl)
  have s55 : ∀ (k55 : St → Int32 → Int32 → Int32 → Int32 → Option (Int32 × St)) (hk55 : (∀ (σ : St) (y1 : Int32) (y3 : Int32) (y4 : Int32) (y5 : Int32) (H : Heap) (locs : List Loc) (ls : Array Slot), k55 σ y1 y3 y4 y5 = some (r, σ2) → zz (dC, dI) 18 a (wdM cI cZ a hh σ) s.heap H locs → lv_has ls 6 [(0, .ref (a 0)), (1, .int y1), (3, .int y3), (4, .int y4), (5, .int y5)] → W p l e rmX6_layGap s m args below meth c H locs 0 0 Q (F0 m 55 ls []))) (σ : St) (y1 : Int32) (y3 : Int32) (y4 : Int32) (y5 : Int32) (H : Heap) (locs : List Loc) (ls : Array Slot), fX6_layGap_s55 k55 σ y1 y3 y4 y5 = some (r, σ2) → zz (dC, dI) 18 a (wdM cI cZ a hh σ) s.heap H locs → lv_has ls 6 [(0, .ref (a 0)), (1, .int y1), (3, .int y3), (4, .int y4), (5, .int y5)] → W p l e rmX6_layGap s m args below meth c H locs 0 0 Q (F0 m 55 ls []) := by
    intro k55 hk55 σ y1 y3 y4 y5 H locs ls h hz hl
    unfold fX6_layGap_s55 at h
    refine lv_iload hx hb dX6_layGap_55 (lv_at hl 4 rfl) ?_
    refine lv_aload_n hx hb dX6_layGap_57 rfl (lv_at hl 0 rfl) ?_
    refine va_get (v := .int (σ 49 0)) hx hb hts inX6_layGap_X6 hown hKK.1 hz.1 0 rfl rfl 18 (by decide) (hts _ (List.mem_of_getElem? (i := 5) rfl)) (fun _ h9 => h9) rfl dX6_layGap_58 ?_
    refine lv_icmp_ge (tgt := 126) hx hb dX6_layGap_61 (by decide) (fun c3 => ?_) (fun c3 => ?_)
    · replace h := ite_t c3 h
      refine lv_aload_n hx hb dX6_layGap_126 rfl (lv_at hl 0 rfl) ?_
      refine va_get (v := .ref (a 16)) hx hb hts inX6_layGap_X6 hown hKK.1 hz.1 0 rfl rfl 25 (by decide) (hts _ (List.mem_of_getElem? (i := 9) rfl)) (fun _ h9 => h9) rfl dX6_layGap_127 ?_
      refine lv_iload_n hx hb dX6_layGap_130 rfl (lv_at hl 1 rfl) ?_
      refine lv_iload_n hx hb dX6_layGap_131 rfl (lv_at hl 2 rfl) ?_
      refine lv_iconst (v := (4 : Int32)) hx hb dX6_layGap_132 (by decide) ?_
      obtain ⟨r4, e6, h⟩ := bd1_e h
      refine zcallSi (As := [.int y3, .int (4 : Int32)]) (rest := [.int y1, .ref (a 16)]) CF hKK (KX6_up (dC := dC) (dI := dI) (cI := cI) (cZ := cZ) (a := a) hok e6) (va_cwS 2 hts gX6_layGap_X6_up rfl rfl rfl cdX6_up.2 ⟨Nat.le_of_ble_eq_true rfl, Nat.le_of_ble_eq_true rfl⟩) hz rfl hl.1 rfl (Nat.le_of_ble_eq_true rfl) dX6_layGap_133 ⟨Nat.le_refl _, Nat.le_refl _⟩ (fun H locs hz => ?_)
      obtain ⟨c7, h⟩ := ck_e h
      refine ziast (f := σ 16) (w' := wdM cI cZ a hh (sa σ 16 (Int32.toNatClampNeg y1) r4)) hx hb hKK hok wkM hz 16 rfl c7 setMa_16 dX6_layGap_136 (fun H locs hz => ?_)
      refine lv_iload_n hx hb dX6_layGap_137 rfl (lv_at hl 2 rfl) ?_
      exact rt y3 (sa σ 16 (Int32.toNatClampNeg y1) r4) 138 _ _ _ dX6_layGap_138 h hz
    · replace h := ite_f c3 h
      refine lv_aload_n hx hb dX6_layGap_64 rfl (lv_at hl 0 rfl) ?_
      refine va_get (v := .ref (a 11)) hx hb hts inX6_layGap_X6 hown hKK.1 hz.1 0 rfl rfl 20 (by decide) (hts _ (List.mem_of_getElem? (i := 6) rfl)) (fun _ h9 => h9) rfl dX6_layGap_65 ?_
      refine lv_iload hx hb dX6_layGap_68 (lv_at hl 4 rfl) ?_
      obtain ⟨c8, h⟩ := ck_e h
      refine va_iald (f := (σ 11)) hx hb hKK.1 hz.1 11 0 rfl rfl c8 dX6_layGap_70 ?_
      refine lv_iload_n hx hb dX6_layGap_71 rfl (lv_at hl 1 rfl) ?_
      refine lv_icmp_ne (tgt := 120) hx hb dX6_layGap_72 (by decide) (fun c9 => ?_) (fun c9 => ?_)
      · replace h := ite_f c9 h
        refine lv_iinc (v := (y5 + (1 : Int32))) (lv' := [(5, .int (y5 + (1 : Int32))), (0, .ref (a 0)), (1, .int y1), (3, .int y3), (4, .int y4)]) hx hb dX6_layGap_120 hl (k := 4) rfl rfl (by decide) rfl (fun ls hl => ?_)
        refine lv_goto (tgt := 55) hx hb dX6_layGap_123 (by decide) ?_
        exact hk55 σ y1 y3 y4 (y5 + (1 : Int32)) _ _ _ h hz (lv_sub hl [1, 2, 3, 4, 0] rfl)
      · replace h := ite_t c9 h
        refine lv_aload_n hx hb dX6_layGap_75 rfl (lv_at hl 0 rfl) ?_
        refine lv_dup hx hb dX6_layGap_76 rfl ?_
        refine va_get (v := .int (σ 51 0)) hx hb hts inX6_layGap_X6 hown hKK.1 hz.1 0 rfl rfl 28 (by decide) (hts _ (List.mem_of_getElem? (i := 7) rfl)) (fun _ h9 => h9) rfl dX6_layGap_77 ?_
        refine lv_iload hx hb dX6_layGap_80 (lv_at hl 3 rfl) ?_
        refine lv_if_eq (tgt := 89) hx hb dX6_layGap_82 (by decide) (fun c10 => ?_) (fun c10 => ?_)
        · replace h := ite_t c10 h
          refine lv_iload_n hx hb dX6_layGap_89 rfl (lv_at hl 2 rfl) ?_
          refine lv_iconst (v := (4 : Int32)) hx hb dX6_layGap_90 (by decide) ?_
          obtain ⟨r11, e13, h⟩ := bd1_e h
          refine zcallSi (As := [.int y3, .int (4 : Int32)]) (rest := [.int (σ 51 0), .ref (a 0)]) CF hKK (KX6_up (dC := dC) (dI := dI) (cI := cI) (cZ := cZ) (a := a) hok e13) (va_cwS 2 hts gX6_layGap_X6_up rfl rfl rfl cdX6_up.2 ⟨Nat.le_of_ble_eq_true rfl, Nat.le_of_ble_eq_true rfl⟩) hz rfl hl.1 rfl (Nat.le_of_ble_eq_true rfl) dX6_layGap_91 ⟨Nat.le_refl _, Nat.le_refl _⟩ (fun H locs hz => ?_)
          refine lv_iload_n hx hb dX6_layGap_94 rfl (lv_at hl 2 rfl) ?_
          refine lv_isub hx hb dX6_layGap_95 ?_
          exact b96 k55 hk55 σ y1 y3 y5 (r11 - y3) (σ 51 0) _ _ _ h hz (lv_sub hl [0, 1, 2, 4] rfl)
        · replace h := ite_f c10 h
          refine lv_iconst (v := (0 : Int32)) hx hb dX6_layGap_85 (by decide) ?_
          refine lv_goto (tgt := 96) hx hb dX6_layGap_86 (by decide) ?_
          exact b96 k55 hk55 σ y1 y3 y5 (0 : Int32) (σ 51 0) _ _ _ h hz (lv_sub hl [0, 1, 2, 4] rfl)
  have l55 : ∀  (n : Nat), ∀ (σ : St) (y1 : Int32) (y3 : Int32) (y4 : Int32) (y5 : Int32) (H : Heap) (locs : List Loc) (ls : Array Slot), fX6_layGap_l55  n σ y1 y3 y4 y5 = some (r, σ2) → zz (dC, dI) 18 a (wdM cI cZ a hh σ) s.heap H locs → lv_has ls 6 [(0, .ref (a 0)), (1, .int y1), (3, .int y3), (4, .int y4), (5, .int y5)] → W p l e rmX6_layGap s m args below meth c H locs 0 0 Q (F0 m 55 ls []) := by
    intro  n
    induction n with
    | zero => intro σ y1 y3 y4 y5 H locs ls h; exact nomatch h
    | succ n ih => exact s55  (fX6_layGap_l55  n) ih
  have s5 : ∀ (k5 : St → Int32 → Int32 → Int32 → Option (Int32 × St)) (hk5 : (∀ (σ : St) (y1 : Int32) (y3 : Int32) (y4 : Int32) (H : Heap) (locs : List Loc) (ls : Array Slot), k5 σ y1 y3 y4 = some (r, σ2) → zz (dC, dI) 18 a (wdM cI cZ a hh σ) s.heap H locs → lv_has ls 6 [(0, .ref (a 0)), (1, .int y1), (3, .int y3), (4, .int y4)] → W p l e rmX6_layGap s m args below meth c H locs 0 0 Q (F0 m 5 ls []))) (σ : St) (y1 : Int32) (y3 : Int32) (y4 : Int32) (H : Heap) (locs : List Loc) (ls : Array Slot), fX6_layGap_s5 k5 σ y1 y3 y4 = some (r, σ2) → zz (dC, dI) 18 a (wdM cI cZ a hh σ) s.heap H locs → lv_has ls 6 [(0, .ref (a 0)), (1, .int y1), (3, .int y3), (4, .int y4)] → W p l e rmX6_layGap s m args below meth c H locs 0 0 Q (F0 m 5 ls []) := by
    intro k5 hk5 σ y1 y3 y4 H locs ls h hz hl
    unfold fX6_layGap_s5 at h
    refine lv_iload hx hb dX6_layGap_5 (lv_at hl 3 rfl) ?_
    refine lv_aload_n hx hb dX6_layGap_7 rfl (lv_at hl 0 rfl) ?_
    refine va_get (v := .int (σ 48 0)) hx hb hts inX6_layGap_X6 hown hKK.1 hz.1 0 rfl rfl 15 (by decide) (hts _ (List.mem_of_getElem? (i := 1) rfl)) (fun _ h9 => h9) rfl dX6_layGap_8 ?_
    refine lv_icmp_ge (tgt := 42) hx hb dX6_layGap_11 (by decide) (fun c1 => ?_) (fun c1 => ?_)
    · replace h := ite_t c1 h
      refine lv_aload_n hx hb dX6_layGap_42 rfl (lv_at hl 0 rfl) ?_
      refine va_get (v := .ref (a 15)) hx hb hts inX6_layGap_X6 hown hKK.1 hz.1 0 rfl rfl 24 (by decide) (hts _ (List.mem_of_getElem? (i := 4) rfl)) (fun _ h9 => h9) rfl dX6_layGap_43 ?_
      refine lv_iload_n hx hb dX6_layGap_46 rfl (lv_at hl 1 rfl) ?_
      refine lv_iload_n hx hb dX6_layGap_47 rfl (lv_at hl 2 rfl) ?_
      obtain ⟨c2, h⟩ := ck_e h
      refine ziast (f := σ 15) (w' := wdM cI cZ a hh (sa σ 15 (Int32.toNatClampNeg y1) y3)) hx hb hKK hok wkM hz 15 rfl c2 setMa_15 dX6_layGap_48 (fun H locs hz => ?_)
      refine lv_iconst (v := (0 : Int32)) hx hb dX6_layGap_49 (by decide) ?_
      refine lv_istore (lv' := [(4, .int (0 : Int32)), (0, .ref (a 0)), (1, .int y1), (3, .int y3)]) hx hb dX6_layGap_50 hl (by decide) rfl (fun ls hl => ?_)
      refine lv_iconst (v := (0 : Int32)) hx hb dX6_layGap_52 (by decide) ?_
      refine lv_istore (lv' := [(5, .int (0 : Int32)), (4, .int (0 : Int32)), (0, .ref (a 0)), (1, .int y1), (3, .int y3)]) hx hb dX6_layGap_53 hl (by decide) rfl (fun ls hl => ?_)
      exact l55  FU (sa σ 15 (Int32.toNatClampNeg y1) y3) y1 y3 (0 : Int32) (0 : Int32) _ _ _ h hz (lv_sub hl [2, 3, 4, 1, 0] rfl)
    · replace h := ite_f c1 h
      refine lv_aload_n hx hb dX6_layGap_14 rfl (lv_at hl 0 rfl) ?_
      refine va_get (v := .ref (a 9)) hx hb hts inX6_layGap_X6 hown hKK.1 hz.1 0 rfl rfl 17 (by decide) (hts _ (List.mem_of_getElem? (i := 2) rfl)) (fun _ h9 => h9) rfl dX6_layGap_15 ?_
      refine lv_iload hx hb dX6_layGap_18 (lv_at hl 3 rfl) ?_
      obtain ⟨c18, h⟩ := ck_e h
      refine va_iald (f := (σ 9)) hx hb hKK.1 hz.1 9 0 rfl rfl c18 dX6_layGap_20 ?_
      refine lv_iload_n hx hb dX6_layGap_21 rfl (lv_at hl 1 rfl) ?_
      refine lv_icmp_ne (tgt := 36) hx hb dX6_layGap_22 (by decide) (fun c19 => ?_) (fun c19 => ?_)
      · replace h := ite_f c19 h
        refine lv_iinc (v := (y4 + (1 : Int32))) (lv' := [(4, .int (y4 + (1 : Int32))), (0, .ref (a 0)), (1, .int y1), (3, .int y3)]) hx hb dX6_layGap_36 hl (k := 3) rfl rfl (by decide) rfl (fun ls hl => ?_)
        refine lv_goto (tgt := 5) hx hb dX6_layGap_39 (by decide) ?_
        exact hk5 σ y1 y3 (y4 + (1 : Int32)) _ _ _ h hz (lv_sub hl [1, 2, 3, 0] rfl)
      · replace h := ite_t c19 h
        refine lv_aload_n hx hb dX6_layGap_25 rfl (lv_at hl 0 rfl) ?_
        refine va_get (v := .ref (a 13)) hx hb hts inX6_layGap_X6 hown hKK.1 hz.1 0 rfl rfl 22 (by decide) (hts _ (List.mem_of_getElem? (i := 3) rfl)) (fun _ h9 => h9) rfl dX6_layGap_26 ?_
        refine lv_iload hx hb dX6_layGap_29 (lv_at hl 3 rfl) ?_
        refine lv_iload_n hx hb dX6_layGap_31 rfl (lv_at hl 2 rfl) ?_
        obtain ⟨c20, h⟩ := ck_e h
        refine ziast (f := σ 13) (w' := wdM cI cZ a hh (sa σ 13 (Int32.toNatClampNeg y4) y3)) hx hb hKK hok wkM hz 13 rfl c20 setMa_13 dX6_layGap_32 (fun H locs hz => ?_)
        refine lv_iinc (v := (y3 + (4 : Int32))) (lv' := [(3, .int (y3 + (4 : Int32))), (0, .ref (a 0)), (1, .int y1), (4, .int y4)]) hx hb dX6_layGap_33 hl (k := 2) rfl rfl (by decide) rfl (fun ls hl => ?_)
        refine lv_iinc (v := (y4 + (1 : Int32))) (lv' := [(4, .int (y4 + (1 : Int32))), (3, .int (y3 + (4 : Int32))), (0, .ref (a 0)), (1, .int y1)]) hx hb dX6_layGap_36 hl (k := 3) rfl rfl (by decide) rfl (fun ls hl => ?_)
        refine lv_goto (tgt := 5) hx hb dX6_layGap_39 (by decide) ?_
        exact hk5 (sa σ 13 (Int32.toNatClampNeg y4) y3) y1 (y3 + (4 : Int32)) (y4 + (1 : Int32)) _ _ _ h hz (lv_sub hl [2, 3, 1, 0] rfl)
  have l5 : ∀  (n : Nat), ∀ (σ : St) (y1 : Int32) (y3 : Int32) (y4 : Int32) (H : Heap) (locs : List Loc) (ls : Array Slot), fX6_layGap_l5  n σ y1 y3 y4 = some (r, σ2) → zz (dC, dI) 18 a (wdM cI cZ a hh σ) s.heap H locs → lv_has ls 6 [(0, .ref (a 0)), (1, .int y1), (3, .int y3), (4, .int y4)] → W p l e rmX6_layGap s m args below meth c H locs 0 0 Q (F0 m 5 ls []) := by
    intro  n
    induction n with
    | zero => intro σ y1 y3 y4 H locs ls h; exact nomatch h
    | succ n ih => exact s5  (fX6_layGap_l5  n) ih
  unfold fX6_layGap at h
  refine lv_iload_n hx hb dX6_layGap_0 rfl (lv_at hl 2 rfl) ?_
  refine lv_istore_n (lv' := [(3, .int x2), (0, .ref (a 0)), (1, .int x1), (2, .int x2)]) hx hb dX6_layGap_1 rfl hl (by decide) rfl (fun ls hl => ?_)
  refine lv_iconst (v := (0 : Int32)) hx hb dX6_layGap_2 (by decide) ?_
  refine lv_istore (lv' := [(4, .int (0 : Int32)), (3, .int x2), (0, .ref (a 0)), (1, .int x1), (2, .int x2)]) hx hb dX6_layGap_3 hl (by decide) rfl (fun ls hl => ?_)
  exact l5  FU σ x1 x2 (0 : Int32) _ _ _ h hz (lv_sub hl [2, 3, 1, 0] rfl)
def fX6_layAll_b71 (k9 : St → Int32 → Int32 → Option (St)) (σ : St) (y1 : Int32) (y2 : Int32) (t0 : Int32) (t1 : Int32) : Option (St) :=
  (bd1 (fX6_sizeOf (si σ 51 (t1 + t0)) y2 y1) fun r7 => (ck (¬ (y2 < 0 ∨ 24 ≤ Int32.toNatClampNeg y2)) <| (if ((σ 2) (Int32.toNatClampNeg y2)) = (5 : Int32) then ((bd2 (fX6_layGap (si σ 51 (t1 + t0)) y2 (y1 + r7)) fun r12 s13 => k9 s13 r12 (y2 + (1 : Int32)))) else (k9 (si σ 51 (t1 + t0)) (y1 + r7) (y2 + (1 : Int32))))))
def fX6_layAll_b46 (k9 : St → Int32 → Int32 → Option (St)) (σ : St) (y1 : Int32) (y2 : Int32) : Option (St) :=
  (ck (¬ (y2 < 0 ∨ 24 ≤ Int32.toNatClampNeg y2)) <| (if ((σ 2) (Int32.toNatClampNeg y2)) = (4 : Int32) then ((bd1 (fX6_sizeOf σ y2 y1) fun r15 => fX6_layAll_b71 k9 σ y1 y2 r15 (σ 51 0))) else (fX6_layAll_b71 k9 σ y1 y2 (0 : Int32) (σ 51 0))))
def fX6_layAll_s9 (k9 : St → Int32 → Int32 → Option (St)) (σ : St) (y1 : Int32) (y2 : Int32) : Option (St) :=
  (if (σ 41 0) ≤ y2 then (some (si σ 50 y1)) else ((ck (¬ (y2 < 0 ∨ 24 ≤ Int32.toNatClampNeg y2)) <| (ck (¬ (y2 < 0 ∨ 24 ≤ Int32.toNatClampNeg y2)) <| (if ((σ 2) (Int32.toNatClampNeg y2)) = (3 : Int32) then ((ck (¬ (y2 < 0 ∨ 24 ≤ Int32.toNatClampNeg y2)) <| (ck (¬ (((σ 3) (Int32.toNatClampNeg y2)) < 0 ∨ 8 ≤ Int32.toNatClampNeg ((σ 3) (Int32.toNatClampNeg y2)))) <| fX6_layAll_b46 k9 (sa (sa σ 12 (Int32.toNatClampNeg y2) y1) 17 (Int32.toNatClampNeg ((σ 3) (Int32.toNatClampNeg y2))) y1) y1 y2))) else (fX6_layAll_b46 k9 (sa σ 12 (Int32.toNatClampNeg y2) y1) y1 y2))))))
def fX6_layAll_l9  : Nat → St → Int32 → Int32 → Option (St) :=
  itr (fX6_layAll_s9 ) (fun _ _ _ => none)
def fX6_layAll (σ : St)  : Option (St) :=
  fX6_layAll_l9  FU (si σ 51 (0 : Int32)) (0 : Int32) (0 : Int32)
abbrev rmX6_layAll : Room := { frames := 2, cells := 0, slots := 0, locals := 46 }
set_option maxHeartbeats 4000000 in
set_option maxRecDepth 100000 in
theorem KX6_layAll {l : Launch} {dC : Nat → ClassId} {dI : Nat → Nat → Nat} {cI cZ : ClassId} {a : Nat → Nat} {hh : Int64} {σ : St}  {σ2 : St} (hok : okA 18 a) (h : fX6_layAll σ  = some σ2) (sz : Nat) : Met l yX6_layAll wsX6_layAll rmX6_layAll (Pz (dC, dI) cI cZ (wdM cI cZ a hh σ) sz [.ref (a 0)]) (Qzv (dC, dI) 18 a (wdM cI cZ a hh σ2) sz) 0 0 (aN 18 a sz) := by
  refine Met.ofW (cc := cX6_layAll) (maxL := 3) (ret := none) (by decide) rfl ?_
  intro p e s m args below meth c s₁ B hml hv
  obtain ⟨hav, hsz, hP, hKK⟩ := hv
  have hx := B.exec
  have hb := B.bytes
  have hr := B.returns
  have hts := atoms_spec (ws := wsX6_layAll) B.pre
  have hown : s.vm.findClass RX6 = some m.cls := findClass_of_methodNamed B.named
  have hlocks := B.notSynchronized
  have CF : CallFix p m c cX6_layAll 3 s args wsX6_layAll RX6 := ⟨hx, hb, hml, hown, hts⟩
  have hz : zz (dC, dI) 18 a (wdM cI cZ a hh σ) s.heap s.heap [] := ⟨hP, va_S.rf⟩
  have hl := lv_entry [.ref (a 0)] (n := 3) (Nat.le_of_ble_eq_true rfl)
  have hen : entryFrame m args 3 = entryFrame m ([.ref (a 0)] : List Value).toArray 3 := by rw [hav]
  rw [hen, lg_entry_eq]
  generalize (lg_sl [.ref (a 0)] ++ List.replicate (3 - (lg_sl [.ref (a 0)]).length) Slot.unset).toArray = ls at hl ⊢
  have hl : lv_has ls 3 [(0, .ref (a 0))] := hl
  have eR : (headSpec wsX6_layAll rmX6_layAll).room = rmX6_layAll := rfl
  rw [eR]
  have rt : ∀ (t : St) (pc : Nat) (H : Heap) (locs : List Loc) (ls : Array Slot), decode cX6_layAll pc = .ok (.return_, 1) → some t = some σ2 → zz (dC, dI) 18 a (wdM cI cZ a hh t) s.heap H locs → W p l e rmX6_layAll s m args below meth c H locs 0 0 (MQ below (Qzv (dC, dI) 18 a (wdM cI cZ a hh σ2) sz) args s 0 0 (aN 18 a sz)) (F0 m pc ls []) := by
    intro t pc H locs ls hd h hz
    cases h
    exact zvret hsz hx hb hr hlocks hz hd
  generalize (MQ below (Qzv (dC, dI) 18 a (wdM cI cZ a hh σ2) sz) args s 0 0 (aN 18 a sz)) = Q at rt ⊢
  have b71 : ∀ (k9 : St → Int32 → Int32 → Option (St)) (hk9 : (∀ (σ : St) (y1 : Int32) (y2 : Int32) (H : Heap) (locs : List Loc) (ls : Array Slot), k9 σ y1 y2 = some σ2 → zz (dC, dI) 18 a (wdM cI cZ a hh σ) s.heap H locs → lv_has ls 3 [(0, .ref (a 0)), (1, .int y1), (2, .int y2)] → W p l e rmX6_layAll s m args below meth c H locs 0 0 Q (F0 m 9 ls []))) (σ : St) (y1 : Int32) (y2 : Int32) (t0 : Int32) (t1 : Int32) (H : Heap) (locs : List Loc) (ls : Array Slot), fX6_layAll_b71 k9 σ y1 y2 t0 t1 = some σ2 → zz (dC, dI) 18 a (wdM cI cZ a hh σ) s.heap H locs → lv_has ls 3 [(0, .ref (a 0)), (1, .int y1), (2, .int y2)] → W p l e rmX6_layAll s m args below meth c H locs 0 0 Q (F0 m 71 ls [.int t0, .int t1, .ref (a 0)]) := by
    intro k9 hk9 σ y1 y2 t0 t1 H locs ls h hz hl
    unfold fX6_layAll_b71 at h
    refine lv_iadd hx hb dX6_layAll_71 ?_
    refine zput (ty := .int) (w' := wdM cI cZ a hh (si σ 51 (t1 + t0))) hx hb hts inX6_layAll_X6 tyX6 tyX6_ok nmX6 hown hKK hok wkM hz 0 rfl rfl 28 (by decide) (hts _ (List.mem_of_getElem? (i := 1) rfl)) (fun _ h9 => h9) rfl rfl rfl rfl (Nat.le_of_ble_eq_true rfl) setMi_51 dX6_layAll_72 (fun H locs hz => ?_)
    refine lv_iload_n hx hb dX6_layAll_75 rfl (lv_at hl 1 rfl) ?_
    refine lv_aload_n hx hb dX6_layAll_76 rfl (lv_at hl 0 rfl) ?_
    refine lv_iload_n hx hb dX6_layAll_77 rfl (lv_at hl 2 rfl) ?_
    refine lv_iload_n hx hb dX6_layAll_78 rfl (lv_at hl 1 rfl) ?_
    obtain ⟨r7, e9, h⟩ := bd1_e h
    refine zcallVi (As := [.int y2, .int y1]) (rest := [.int y1]) CF hKK (KX6_sizeOf (dC := dC) (dI := dI) (cI := cI) (cZ := cZ) (a := a) hok e9) (cwV 2 hts gX6_layAll_X6_sizeOf rfl rfl rfl cdX6_sizeOf ⟨Nat.le_of_ble_eq_true rfl, Nat.le_of_ble_eq_true rfl⟩) 0 6 rfl rfl hz rfl hl.1 rfl (Nat.le_of_ble_eq_true rfl) dX6_layAll_79 ⟨Nat.le_refl _, Nat.le_refl _⟩ (fun H locs hz => ?_)
    refine lv_iadd hx hb dX6_layAll_82 ?_
    refine lv_istore_n (lv' := [(1, .int (y1 + r7)), (0, .ref (a 0)), (2, .int y2)]) hx hb dX6_layAll_83 rfl hl (by decide) rfl (fun ls hl => ?_)
    refine lv_aload_n hx hb dX6_layAll_84 rfl (lv_at hl 1 rfl) ?_
    refine va_get (v := .ref (a 2)) hx hb hts inX6_layAll_X6 hown hKK.1 hz.1 0 rfl rfl 3 (by decide) (hts _ (List.mem_of_getElem? (i := 4) rfl)) (fun _ h9 => h9) rfl dX6_layAll_85 ?_
    refine lv_iload_n hx hb dX6_layAll_88 rfl (lv_at hl 2 rfl) ?_
    obtain ⟨c10, h⟩ := ck_e h
    refine va_iald (f := (σ 2)) hx hb hKK.1 hz.1 2 0 rfl rfl c10 dX6_layAll_89 ?_
    refine lv_iconst (v := (5 : Int32)) hx hb dX6_layAll_90 (by decide) ?_
    refine lv_icmp_ne (tgt := 101) hx hb dX6_layAll_91 (by decide) (fun c11 => ?_) (fun c11 => ?_)
    · replace h := ite_f c11 h
      refine lv_iinc (v := (y2 + (1 : Int32))) (lv' := [(2, .int (y2 + (1 : Int32))), (1, .int (y1 + r7)), (0, .ref (a 0))]) hx hb dX6_layAll_101 hl (k := 2) rfl rfl (by decide) rfl (fun ls hl => ?_)
      refine lv_goto (tgt := 9) hx hb dX6_layAll_104 (by decide) ?_
      exact hk9 (si σ 51 (t1 + t0)) (y1 + r7) (y2 + (1 : Int32)) _ _ _ h hz (lv_sub hl [2, 1, 0] rfl)
    · replace h := ite_t c11 h
      refine lv_aload_n hx hb dX6_layAll_94 rfl (lv_at hl 1 rfl) ?_
      refine lv_iload_n hx hb dX6_layAll_95 rfl (lv_at hl 2 rfl) ?_
      refine lv_iload_n hx hb dX6_layAll_96 rfl (lv_at hl 0 rfl) ?_
      obtain ⟨r12, s13, e14, h⟩ := bd2_e h
      refine zcallVi (As := [.int y2, .int (y1 + r7)]) (rest := []) CF hKK (KX6_layGap (dC := dC) (dI := dI) (cI := cI) (cZ := cZ) (a := a) hok e14) (cwV 2 hts gX6_layAll_X6_layGap rfl rfl rfl cdX6_layGap ⟨Nat.le_of_ble_eq_true rfl, Nat.le_of_ble_eq_true rfl⟩) 0 6 rfl rfl hz rfl hl.1 rfl (Nat.le_of_ble_eq_true rfl) dX6_layAll_97 ⟨Nat.le_refl _, Nat.le_refl _⟩ (fun H locs hz => ?_)
      refine lv_istore_n (lv' := [(1, .int r12), (0, .ref (a 0)), (2, .int y2)]) hx hb dX6_layAll_100 rfl hl (by decide) rfl (fun ls hl => ?_)
      refine lv_iinc (v := (y2 + (1 : Int32))) (lv' := [(2, .int (y2 + (1 : Int32))), (1, .int r12), (0, .ref (a 0))]) hx hb dX6_layAll_101 hl (k := 2) rfl rfl (by decide) rfl (fun ls hl => ?_)
      refine lv_goto (tgt := 9) hx hb dX6_layAll_104 (by decide) ?_
      exact hk9 s13 r12 (y2 + (1 : Int32)) _ _ _ h hz (lv_sub hl [2, 1, 0] rfl)
  have b46 : ∀ (k9 : St → Int32 → Int32 → Option (St)) (hk9 : (∀ (σ : St) (y1 : Int32) (y2 : Int32) (H : Heap) (locs : List Loc) (ls : Array Slot), k9 σ y1 y2 = some σ2 → zz (dC, dI) 18 a (wdM cI cZ a hh σ) s.heap H locs → lv_has ls 3 [(0, .ref (a 0)), (1, .int y1), (2, .int y2)] → W p l e rmX6_layAll s m args below meth c H locs 0 0 Q (F0 m 9 ls []))) (σ : St) (y1 : Int32) (y2 : Int32) (H : Heap) (locs : List Loc) (ls : Array Slot), fX6_layAll_b46 k9 σ y1 y2 = some σ2 → zz (dC, dI) 18 a (wdM cI cZ a hh σ) s.heap H locs → lv_has ls 3 [(0, .ref (a 0)), (1, .int y1), (2, .int y2)] → W p l e rmX6_layAll s m args below meth c H locs 0 0 Q (F0 m 46 ls []) := by
    intro k9 hk9 σ y1 y2 H locs ls h hz hl
    unfold fX6_layAll_b46 at h
    refine lv_aload_n hx hb dX6_layAll_46 rfl (lv_at hl 0 rfl) ?_
    refine lv_dup hx hb dX6_layAll_47 rfl ?_
    refine va_get (v := .int (σ 51 0)) hx hb hts inX6_layAll_X6 hown hKK.1 hz.1 0 rfl rfl 28 (by decide) (hts _ (List.mem_of_getElem? (i := 1) rfl)) (fun _ h9 => h9) rfl dX6_layAll_48 ?_
    refine lv_aload_n hx hb dX6_layAll_51 rfl (lv_at hl 0 rfl) ?_
    refine va_get (v := .ref (a 2)) hx hb hts inX6_layAll_X6 hown hKK.1 hz.1 0 rfl rfl 3 (by decide) (hts _ (List.mem_of_getElem? (i := 4) rfl)) (fun _ h9 => h9) rfl dX6_layAll_52 ?_
    refine lv_iload_n hx hb dX6_layAll_55 rfl (lv_at hl 2 rfl) ?_
    obtain ⟨c5, h⟩ := ck_e h
    refine va_iald (f := (σ 2)) hx hb hKK.1 hz.1 2 0 rfl rfl c5 dX6_layAll_56 ?_
    refine lv_iconst (v := (4 : Int32)) hx hb dX6_layAll_57 (by decide) ?_
    refine lv_icmp_ne (tgt := 70) hx hb dX6_layAll_58 (by decide) (fun c6 => ?_) (fun c6 => ?_)
    · replace h := ite_f c6 h
      refine lv_iconst (v := (0 : Int32)) hx hb dX6_layAll_70 (by decide) ?_
      exact b71 k9 hk9 σ y1 y2 (0 : Int32) (σ 51 0) _ _ _ h hz (lv_sub hl [0, 1, 2] rfl)
    · replace h := ite_t c6 h
      refine lv_aload_n hx hb dX6_layAll_61 rfl (lv_at hl 0 rfl) ?_
      refine lv_iload_n hx hb dX6_layAll_62 rfl (lv_at hl 2 rfl) ?_
      refine lv_iload_n hx hb dX6_layAll_63 rfl (lv_at hl 1 rfl) ?_
      obtain ⟨r15, e17, h⟩ := bd1_e h
      refine zcallVi (As := [.int y2, .int y1]) (rest := [.int (σ 51 0), .ref (a 0)]) CF hKK (KX6_sizeOf (dC := dC) (dI := dI) (cI := cI) (cZ := cZ) (a := a) hok e17) (cwV 2 hts gX6_layAll_X6_sizeOf rfl rfl rfl cdX6_sizeOf ⟨Nat.le_of_ble_eq_true rfl, Nat.le_of_ble_eq_true rfl⟩) 0 6 rfl rfl hz rfl hl.1 rfl (Nat.le_of_ble_eq_true rfl) dX6_layAll_64 ⟨Nat.le_refl _, Nat.le_refl _⟩ (fun H locs hz => ?_)
      refine lv_goto (tgt := 71) hx hb dX6_layAll_67 (by decide) ?_
      exact b71 k9 hk9 σ y1 y2 r15 (σ 51 0) _ _ _ h hz (lv_sub hl [0, 1, 2] rfl)
  have s9 : ∀ (k9 : St → Int32 → Int32 → Option (St)) (hk9 : (∀ (σ : St) (y1 : Int32) (y2 : Int32) (H : Heap) (locs : List Loc) (ls : Array Slot), k9 σ y1 y2 = some σ2 → zz (dC, dI) 18 a (wdM cI cZ a hh σ) s.heap H locs → lv_has ls 3 [(0, .ref (a 0)), (1, .int y1), (2, .int y2)] → W p l e rmX6_layAll s m args below meth c H locs 0 0 Q (F0 m 9 ls []))) (σ : St) (y1 : Int32) (y2 : Int32) (H : Heap) (locs : List Loc) (ls : Array Slot), fX6_layAll_s9 k9 σ y1 y2 = some σ2 → zz (dC, dI) 18 a (wdM cI cZ a hh σ) s.heap H locs → lv_has ls 3 [(0, .ref (a 0)), (1, .int y1), (2, .int y2)] → W p l e rmX6_layAll s m args below meth c H locs 0 0 Q (F0 m 9 ls []) := by
    intro k9 hk9 σ y1 y2 H locs ls h hz hl
    unfold fX6_layAll_s9 at h
    refine lv_iload_n hx hb dX6_layAll_9 rfl (lv_at hl 2 rfl) ?_
    refine lv_aload_n hx hb dX6_layAll_10 rfl (lv_at hl 0 rfl) ?_
    refine va_get (v := .int (σ 41 0)) hx hb hts inX6_layAll_X6 hown hKK.1 hz.1 0 rfl rfl 2 (by decide) (hts _ (List.mem_of_getElem? (i := 2) rfl)) (fun _ h9 => h9) rfl dX6_layAll_11 ?_
    refine lv_icmp_ge (tgt := 107) hx hb dX6_layAll_14 (by decide) (fun c1 => ?_) (fun c1 => ?_)
    · replace h := ite_t c1 h
      refine lv_aload_n hx hb dX6_layAll_107 rfl (lv_at hl 0 rfl) ?_
      refine lv_iload_n hx hb dX6_layAll_108 rfl (lv_at hl 1 rfl) ?_
      refine zput (ty := .int) (w' := wdM cI cZ a hh (si σ 50 y1)) hx hb hts inX6_layAll_X6 tyX6 tyX6_ok nmX6 hown hKK hok wkM hz 0 rfl rfl 27 (by decide) (hts _ (List.mem_of_getElem? (i := 7) rfl)) (fun _ h9 => h9) rfl rfl rfl rfl (Nat.le_of_ble_eq_true rfl) setMi_50 dX6_layAll_109 (fun H locs hz => ?_)
      exact rt (si σ 50 y1) 112 _ _ _ dX6_layAll_112 h hz
    · replace h := ite_f c1 h
      refine lv_aload_n hx hb dX6_layAll_17 rfl (lv_at hl 0 rfl) ?_
      refine va_get (v := .ref (a 12)) hx hb hts inX6_layAll_X6 hown hKK.1 hz.1 0 rfl rfl 21 (by decide) (hts _ (List.mem_of_getElem? (i := 3) rfl)) (fun _ h9 => h9) rfl dX6_layAll_18 ?_
      refine lv_iload_n hx hb dX6_layAll_21 rfl (lv_at hl 2 rfl) ?_
      refine lv_iload_n hx hb dX6_layAll_22 rfl (lv_at hl 1 rfl) ?_
      obtain ⟨c2, h⟩ := ck_e h
      refine ziast (f := σ 12) (w' := wdM cI cZ a hh (sa σ 12 (Int32.toNatClampNeg y2) y1)) hx hb hKK hok wkM hz 12 rfl c2 setMa_12 dX6_layAll_23 (fun H locs hz => ?_)
      refine lv_aload_n hx hb dX6_layAll_24 rfl (lv_at hl 0 rfl) ?_
      refine va_get (v := .ref (a 2)) hx hb hts inX6_layAll_X6 hown hKK.1 hz.1 0 rfl rfl 3 (by decide) (hts _ (List.mem_of_getElem? (i := 4) rfl)) (fun _ h9 => h9) rfl dX6_layAll_25 ?_
      refine lv_iload_n hx hb dX6_layAll_28 rfl (lv_at hl 2 rfl) ?_
      obtain ⟨c3, h⟩ := ck_e h
      refine va_iald (f := (σ 2)) hx hb hKK.1 hz.1 2 0 rfl rfl c3 dX6_layAll_29 ?_
      refine lv_iconst (v := (3 : Int32)) hx hb dX6_layAll_30 (by decide) ?_
      refine lv_icmp_ne (tgt := 46) hx hb dX6_layAll_31 (by decide) (fun c4 => ?_) (fun c4 => ?_)
      · replace h := ite_f c4 h
        exact b46 k9 hk9 (sa σ 12 (Int32.toNatClampNeg y2) y1) y1 y2 _ _ _ h hz (lv_sub hl [0, 1, 2] rfl)
      · replace h := ite_t c4 h
        refine lv_aload_n hx hb dX6_layAll_34 rfl (lv_at hl 0 rfl) ?_
        refine va_get (v := .ref (a 17)) hx hb hts inX6_layAll_X6 hown hKK.1 hz.1 0 rfl rfl 26 (by decide) (hts _ (List.mem_of_getElem? (i := 5) rfl)) (fun _ h9 => h9) rfl dX6_layAll_35 ?_
        refine lv_aload_n hx hb dX6_layAll_38 rfl (lv_at hl 0 rfl) ?_
        refine va_get (v := .ref (a 3)) hx hb hts inX6_layAll_X6 hown hKK.1 hz.1 0 rfl rfl 4 (by decide) (hts _ (List.mem_of_getElem? (i := 6) rfl)) (fun _ h9 => h9) rfl dX6_layAll_39 ?_
        refine lv_iload_n hx hb dX6_layAll_42 rfl (lv_at hl 2 rfl) ?_
        obtain ⟨c18, h⟩ := ck_e h
        refine va_iald (f := (σ 3)) hx hb hKK.1 hz.1 3 0 rfl rfl c18 dX6_layAll_43 ?_
        refine lv_iload_n hx hb dX6_layAll_44 rfl (lv_at hl 1 rfl) ?_
        obtain ⟨c19, h⟩ := ck_e h
        refine ziast (f := (sa σ 12 (Int32.toNatClampNeg y2) y1) 17) (w' := wdM cI cZ a hh (sa (sa σ 12 (Int32.toNatClampNeg y2) y1) 17 (Int32.toNatClampNeg ((σ 3) (Int32.toNatClampNeg y2))) y1)) hx hb hKK hok wkM hz 17 rfl c19 setMa_17 dX6_layAll_45 (fun H locs hz => ?_)
        exact b46 k9 hk9 (sa (sa σ 12 (Int32.toNatClampNeg y2) y1) 17 (Int32.toNatClampNeg ((σ 3) (Int32.toNatClampNeg y2))) y1) y1 y2 _ _ _ h hz (lv_sub hl [0, 1, 2] rfl)
  have l9 : ∀  (n : Nat), ∀ (σ : St) (y1 : Int32) (y2 : Int32) (H : Heap) (locs : List Loc) (ls : Array Slot), fX6_layAll_l9  n σ y1 y2 = some σ2 → zz (dC, dI) 18 a (wdM cI cZ a hh σ) s.heap H locs → lv_has ls 3 [(0, .ref (a 0)), (1, .int y1), (2, .int y2)] → W p l e rmX6_layAll s m args below meth c H locs 0 0 Q (F0 m 9 ls []) := by
    intro  n
    induction n with
    | zero => intro σ y1 y2 H locs ls h; exact nomatch h
    | succ n ih => exact s9  (fX6_layAll_l9  n) ih
  unfold fX6_layAll at h
  refine lv_iconst (v := (0 : Int32)) hx hb dX6_layAll_0 (by decide) ?_
  refine lv_istore_n (lv' := [(1, .int (0 : Int32)), (0, .ref (a 0))]) hx hb dX6_layAll_1 rfl hl (by decide) rfl (fun ls hl => ?_)
  refine lv_aload_n hx hb dX6_layAll_2 rfl (lv_at hl 1 rfl) ?_
  refine lv_iconst (v := (0 : Int32)) hx hb dX6_layAll_3 (by decide) ?_
  refine zput (ty := .int) (w' := wdM cI cZ a hh (si σ 51 (0 : Int32))) hx hb hts inX6_layAll_X6 tyX6 tyX6_ok nmX6 hown hKK hok wkM hz 0 rfl rfl 28 (by decide) (hts _ (List.mem_of_getElem? (i := 1) rfl)) (fun _ h9 => h9) rfl rfl rfl rfl (Nat.le_of_ble_eq_true rfl) setMi_51 dX6_layAll_4 (fun H locs hz => ?_)
  refine lv_iconst (v := (0 : Int32)) hx hb dX6_layAll_7 (by decide) ?_
  refine lv_istore_n (lv' := [(2, .int (0 : Int32)), (1, .int (0 : Int32)), (0, .ref (a 0))]) hx hb dX6_layAll_8 rfl hl (by decide) rfl (fun ls hl => ?_)
  exact l9  FU (si σ 51 (0 : Int32)) (0 : Int32) (0 : Int32) _ _ _ h hz (lv_sub hl [2, 1, 0] rfl)
def fX6_constantFor_b81 (σ : St) (k4 : Int32 → Int32 → Int32 → Option (Int32)) (y1 : Int32) (y3 : Int32) : Option (Int32) :=
  k4 y1 y3 (y3 + (1 : Int32))
def fX6_constantFor_s4 (σ : St) (k4 : Int32 → Int32 → Int32 → Option (Int32)) (y1 : Int32) (y2 : Int32) (y3 : Int32) : Option (Int32) :=
  (if (σ 49 0) ≤ y3 then (some y2) else ((ck (¬ (y3 < 0 ∨ 16 ≤ Int32.toNatClampNeg y3)) <| (ck (¬ (y1 < 0 ∨ 24 ≤ Int32.toNatClampNeg y1)) <| (ck (¬ (y3 < 0 ∨ 16 ≤ Int32.toNatClampNeg y3)) <| (ck (¬ (y1 < 0 ∨ 24 ≤ Int32.toNatClampNeg y1)) <| (if ((σ 10) (Int32.toNatClampNeg y3)) = ((σ 3) (Int32.toNatClampNeg y1)) then ((if (((σ 14) (Int32.toNatClampNeg y3)) - ((σ 12) (Int32.toNatClampNeg y1))) ≤ 0 then (k4 y1 y2 (y3 + (1 : Int32))) else ((if ((σ 4) (Int32.toNatClampNeg (2 : Int32))) < (((σ 14) (Int32.toNatClampNeg y3)) - ((σ 12) (Int32.toNatClampNeg y1))) then (k4 y1 y2 (y3 + (1 : Int32))) else ((if y2 = (-1 : Int32) then (fX6_constantFor_b81 σ k4 y1 y3) else ((ck (¬ (y2 < 0 ∨ 16 ≤ Int32.toNatClampNeg y2)) <| (ck (¬ (y1 < 0 ∨ 24 ≤ Int32.toNatClampNeg y1)) <| (if (((σ 14) (Int32.toNatClampNeg y2)) - ((σ 12) (Int32.toNatClampNeg y1))) ≤ (((σ 14) (Int32.toNatClampNeg y3)) - ((σ 12) (Int32.toNatClampNeg y1))) then (k4 y1 y2 (y3 + (1 : Int32))) else (fX6_constantFor_b81 σ k4 y1 y3))))))))))) else (k4 y1 y2 (y3 + (1 : Int32))))))))))
def fX6_constantFor_l4 (σ : St)  : Nat → Int32 → Int32 → Int32 → Option (Int32) :=
  itr (fX6_constantFor_s4 σ ) (fun _ _ _ => none)
def fX6_constantFor (σ : St) (x1 : Int32) : Option (Int32) :=
  fX6_constantFor_l4 σ  FU x1 (-1 : Int32) (0 : Int32)
abbrev rmX6_constantFor : Room := { frames := 0, cells := 0, slots := 0, locals := 0 }
set_option maxHeartbeats 4000000 in
set_option maxRecDepth 100000 in
theorem KX6_constantFor {l : Launch} {dC : Nat → ClassId} {dI : Nat → Nat → Nat} {cI cZ : ClassId} {a : Nat → Nat} {hh : Int64} {σ : St} {x1 : Int32} {r : Int32} (hok : okA 18 a) (h : fX6_constantFor σ x1 = some r) (sz : Nat) : Met l yX6_constantFor wsX6_constantFor rmX6_constantFor (Pz (dC, dI) cI cZ (wdM cI cZ a hh σ) sz [.ref (a 0), .int x1]) (Qzi (dC, dI) 18 a (wdM cI cZ a hh σ) sz r) 0 0 (aN 18 a sz) := by
  refine Met.ofW (cc := cX6_constantFor) (maxL := 5) (ret := (some .int)) (by decide) rfl ?_
  intro p e s m args below meth c s₁ B hml hv
  obtain ⟨hav, hsz, hP, hKK⟩ := hv
  have hx := B.exec
  have hb := B.bytes
  have hr := B.returns
  have hts := atoms_spec (ws := wsX6_constantFor) B.pre
  have hown : s.vm.findClass RX6 = some m.cls := findClass_of_methodNamed B.named
  have hlocks := B.notSynchronized
  have CF : CallFix p m c cX6_constantFor 5 s args wsX6_constantFor RX6 := ⟨hx, hb, hml, hown, hts⟩
  have hz : zz (dC, dI) 18 a (wdM cI cZ a hh σ) s.heap s.heap [] := ⟨hP, va_S.rf⟩
  have hl := lv_entry [.ref (a 0), .int x1] (n := 5) (Nat.le_of_ble_eq_true rfl)
  have hen : entryFrame m args 5 = entryFrame m ([.ref (a 0), .int x1] : List Value).toArray 5 := by rw [hav]
  rw [hen, lg_entry_eq]
  generalize (lg_sl [.ref (a 0), .int x1] ++ List.replicate (5 - (lg_sl [.ref (a 0), .int x1]).length) Slot.unset).toArray = ls at hl ⊢
  have hl : lv_has ls 5 [(0, .ref (a 0)), (1, .int x1)] := hl
  have eR : (headSpec wsX6_constantFor rmX6_constantFor).room = rmX6_constantFor := rfl
  rw [eR]
  have rt : ∀ (v : Int32) (t : St) (pc : Nat) (H : Heap) (locs : List Loc) (ls : Array Slot), decode cX6_constantFor pc = .ok (.ireturn, 1) → some v = some r → zz (dC, dI) 18 a (wdM cI cZ a hh σ) s.heap H locs → W p l e rmX6_constantFor s m args below meth c H locs 0 0 (MQ below (Qzi (dC, dI) 18 a (wdM cI cZ a hh σ) sz r) args s 0 0 (aN 18 a sz)) (F0 m pc ls [.int v]) := by
    intro v t pc H locs ls hd h hz
    cases h
    exact ziret hsz hx hb hr hlocks hz hd
  generalize (MQ below (Qzi (dC, dI) 18 a (wdM cI cZ a hh σ) sz r) args s 0 0 (aN 18 a sz)) = Q at rt ⊢
  have b81 : ∀ (k4 : Int32 → Int32 → Int32 → Option (Int32)) (hk4 : (∀ (y1 : Int32) (y2 : Int32) (y3 : Int32) (H : Heap) (locs : List Loc) (ls : Array Slot), k4 y1 y2 y3 = some r → zz (dC, dI) 18 a (wdM cI cZ a hh σ) s.heap H locs → lv_has ls 5 [(0, .ref (a 0)), (1, .int y1), (2, .int y2), (3, .int y3)] → W p l e rmX6_constantFor s m args below meth c H locs 0 0 Q (F0 m 4 ls []))) (y1 : Int32) (y3 : Int32) (H : Heap) (locs : List Loc) (ls : Array Slot), fX6_constantFor_b81 σ k4 y1 y3 = some r → zz (dC, dI) 18 a (wdM cI cZ a hh σ) s.heap H locs → lv_has ls 5 [(0, .ref (a 0)), (1, .int y1), (3, .int y3)] → W p l e rmX6_constantFor s m args below meth c H locs 0 0 Q (F0 m 81 ls []) := by
    intro k4 hk4 y1 y3 H locs ls h hz hl
    unfold fX6_constantFor_b81 at h
    refine lv_iload_n hx hb dX6_constantFor_81 rfl (lv_at hl 2 rfl) ?_
    refine lv_goto (tgt := 86) hx hb dX6_constantFor_82 (by decide) ?_
    refine lv_istore_n (lv' := [(2, .int y3), (0, .ref (a 0)), (1, .int y1), (3, .int y3)]) hx hb dX6_constantFor_86 rfl hl (by decide) rfl (fun ls hl => ?_)
    refine lv_iinc (v := (y3 + (1 : Int32))) (lv' := [(3, .int (y3 + (1 : Int32))), (2, .int y3), (0, .ref (a 0)), (1, .int y1)]) hx hb dX6_constantFor_87 hl (k := 3) rfl rfl (by decide) rfl (fun ls hl => ?_)
    refine lv_goto (tgt := 4) hx hb dX6_constantFor_90 (by decide) ?_
    exact hk4 y1 y3 (y3 + (1 : Int32)) _ _ _ h hz (lv_sub hl [2, 3, 1, 0] rfl)
  have s4 : ∀ (k4 : Int32 → Int32 → Int32 → Option (Int32)) (hk4 : (∀ (y1 : Int32) (y2 : Int32) (y3 : Int32) (H : Heap) (locs : List Loc) (ls : Array Slot), k4 y1 y2 y3 = some r → zz (dC, dI) 18 a (wdM cI cZ a hh σ) s.heap H locs → lv_has ls 5 [(0, .ref (a 0)), (1, .int y1), (2, .int y2), (3, .int y3)] → W p l e rmX6_constantFor s m args below meth c H locs 0 0 Q (F0 m 4 ls []))) (y1 : Int32) (y2 : Int32) (y3 : Int32) (H : Heap) (locs : List Loc) (ls : Array Slot), fX6_constantFor_s4 σ k4 y1 y2 y3 = some r → zz (dC, dI) 18 a (wdM cI cZ a hh σ) s.heap H locs → lv_has ls 5 [(0, .ref (a 0)), (1, .int y1), (2, .int y2), (3, .int y3)] → W p l e rmX6_constantFor s m args below meth c H locs 0 0 Q (F0 m 4 ls []) := by
    intro k4 hk4 y1 y2 y3 H locs ls h hz hl
    unfold fX6_constantFor_s4 at h
    refine lv_iload_n hx hb dX6_constantFor_4 rfl (lv_at hl 3 rfl) ?_
    refine lv_aload_n hx hb dX6_constantFor_5 rfl (lv_at hl 0 rfl) ?_
    refine va_get (v := .int (σ 49 0)) hx hb hts inX6_constantFor_X6 hown hKK.1 hz.1 0 rfl rfl 18 (by decide) (hts _ (List.mem_of_getElem? (i := 1) rfl)) (fun _ h9 => h9) rfl dX6_constantFor_6 ?_
    refine lv_icmp_ge (tgt := 93) hx hb dX6_constantFor_9 (by decide) (fun c1 => ?_) (fun c1 => ?_)
    · replace h := ite_t c1 h
      refine lv_iload_n hx hb dX6_constantFor_93 rfl (lv_at hl 2 rfl) ?_
      exact rt y2 σ 94 _ _ _ dX6_constantFor_94 h hz
    · replace h := ite_f c1 h
      refine lv_aload_n hx hb dX6_constantFor_12 rfl (lv_at hl 0 rfl) ?_
      refine va_get (v := .ref (a 14)) hx hb hts inX6_constantFor_X6 hown hKK.1 hz.1 0 rfl rfl 23 (by decide) (hts _ (List.mem_of_getElem? (i := 2) rfl)) (fun _ h9 => h9) rfl dX6_constantFor_13 ?_
      refine lv_iload_n hx hb dX6_constantFor_16 rfl (lv_at hl 3 rfl) ?_
      obtain ⟨c2, h⟩ := ck_e h
      refine va_iald (f := (σ 14)) hx hb hKK.1 hz.1 14 0 rfl rfl c2 dX6_constantFor_17 ?_
      refine lv_aload_n hx hb dX6_constantFor_18 rfl (lv_at hl 0 rfl) ?_
      refine va_get (v := .ref (a 12)) hx hb hts inX6_constantFor_X6 hown hKK.1 hz.1 0 rfl rfl 21 (by decide) (hts _ (List.mem_of_getElem? (i := 3) rfl)) (fun _ h9 => h9) rfl dX6_constantFor_19 ?_
      refine lv_iload_n hx hb dX6_constantFor_22 rfl (lv_at hl 1 rfl) ?_
      obtain ⟨c3, h⟩ := ck_e h
      refine va_iald (f := (σ 12)) hx hb hKK.1 hz.1 12 0 rfl rfl c3 dX6_constantFor_23 ?_
      refine lv_isub hx hb dX6_constantFor_24 ?_
      refine lv_istore (lv' := [(4, .int (((σ 14) (Int32.toNatClampNeg y3)) - ((σ 12) (Int32.toNatClampNeg y1)))), (0, .ref (a 0)), (1, .int y1), (2, .int y2), (3, .int y3)]) hx hb dX6_constantFor_25 hl (by decide) rfl (fun ls hl => ?_)
      refine lv_aload_n hx hb dX6_constantFor_27 rfl (lv_at hl 1 rfl) ?_
      refine va_get (v := .ref (a 10)) hx hb hts inX6_constantFor_X6 hown hKK.1 hz.1 0 rfl rfl 19 (by decide) (hts _ (List.mem_of_getElem? (i := 4) rfl)) (fun _ h9 => h9) rfl dX6_constantFor_28 ?_
      refine lv_iload_n hx hb dX6_constantFor_31 rfl (lv_at hl 4 rfl) ?_
      obtain ⟨c4, h⟩ := ck_e h
      refine va_iald (f := (σ 10)) hx hb hKK.1 hz.1 10 0 rfl rfl c4 dX6_constantFor_32 ?_
      refine lv_aload_n hx hb dX6_constantFor_33 rfl (lv_at hl 1 rfl) ?_
      refine va_get (v := .ref (a 3)) hx hb hts inX6_constantFor_X6 hown hKK.1 hz.1 0 rfl rfl 4 (by decide) (hts _ (List.mem_of_getElem? (i := 5) rfl)) (fun _ h9 => h9) rfl dX6_constantFor_34 ?_
      refine lv_iload_n hx hb dX6_constantFor_37 rfl (lv_at hl 2 rfl) ?_
      obtain ⟨c5, h⟩ := ck_e h
      refine va_iald (f := (σ 3)) hx hb hKK.1 hz.1 3 0 rfl rfl c5 dX6_constantFor_38 ?_
      refine lv_icmp_ne (tgt := 87) hx hb dX6_constantFor_39 (by decide) (fun c6 => ?_) (fun c6 => ?_)
      · replace h := ite_f c6 h
        refine lv_iinc (v := (y3 + (1 : Int32))) (lv' := [(3, .int (y3 + (1 : Int32))), (4, .int (((σ 14) (Int32.toNatClampNeg y3)) - ((σ 12) (Int32.toNatClampNeg y1)))), (0, .ref (a 0)), (1, .int y1), (2, .int y2)]) hx hb dX6_constantFor_87 hl (k := 4) rfl rfl (by decide) rfl (fun ls hl => ?_)
        refine lv_goto (tgt := 4) hx hb dX6_constantFor_90 (by decide) ?_
        exact hk4 y1 y2 (y3 + (1 : Int32)) _ _ _ h hz (lv_sub hl [2, 3, 4, 0] rfl)
      · replace h := ite_t c6 h
        refine lv_iload hx hb dX6_constantFor_42 (lv_at hl 0 rfl) ?_
        refine lv_if_le (tgt := 87) hx hb dX6_constantFor_44 (by decide) (fun c7 => ?_) (fun c7 => ?_)
        · replace h := ite_t c7 h
          refine lv_iinc (v := (y3 + (1 : Int32))) (lv' := [(3, .int (y3 + (1 : Int32))), (4, .int (((σ 14) (Int32.toNatClampNeg y3)) - ((σ 12) (Int32.toNatClampNeg y1)))), (0, .ref (a 0)), (1, .int y1), (2, .int y2)]) hx hb dX6_constantFor_87 hl (k := 4) rfl rfl (by decide) rfl (fun ls hl => ?_)
          refine lv_goto (tgt := 4) hx hb dX6_constantFor_90 (by decide) ?_
          exact hk4 y1 y2 (y3 + (1 : Int32)) _ _ _ h hz (lv_sub hl [2, 3, 4, 0] rfl)
        · replace h := ite_f c7 h
          refine lv_iload hx hb dX6_constantFor_47 (lv_at hl 0 rfl) ?_
          refine lv_aload_n hx hb dX6_constantFor_49 rfl (lv_at hl 1 rfl) ?_
          refine va_get (v := .ref (a 4)) hx hb hts inX6_constantFor_X6 hown hKK.1 hz.1 0 rfl rfl 7 (by decide) (hts _ (List.mem_of_getElem? (i := 6) rfl)) (fun _ h9 => h9) rfl dX6_constantFor_50 ?_
          refine lv_iconst (v := (2 : Int32)) hx hb dX6_constantFor_53 (by decide) ?_
          refine va_iald (f := (σ 4)) hx hb hKK.1 hz.1 4 0 rfl rfl (by decide : vp_inD (2 : Int32) 3) dX6_constantFor_54 ?_
          refine lv_icmp_gt (tgt := 87) hx hb dX6_constantFor_55 (by decide) (fun c8 => ?_) (fun c8 => ?_)
          · replace h := ite_t c8 h
            refine lv_iinc (v := (y3 + (1 : Int32))) (lv' := [(3, .int (y3 + (1 : Int32))), (4, .int (((σ 14) (Int32.toNatClampNeg y3)) - ((σ 12) (Int32.toNatClampNeg y1)))), (0, .ref (a 0)), (1, .int y1), (2, .int y2)]) hx hb dX6_constantFor_87 hl (k := 4) rfl rfl (by decide) rfl (fun ls hl => ?_)
            refine lv_goto (tgt := 4) hx hb dX6_constantFor_90 (by decide) ?_
            exact hk4 y1 y2 (y3 + (1 : Int32)) _ _ _ h hz (lv_sub hl [2, 3, 4, 0] rfl)
          · replace h := ite_f c8 h
            refine lv_iload_n hx hb dX6_constantFor_58 rfl (lv_at hl 3 rfl) ?_
            refine lv_iconst (v := (-1 : Int32)) hx hb dX6_constantFor_59 (by decide) ?_
            refine lv_icmp_eq (tgt := 81) hx hb dX6_constantFor_60 (by decide) (fun c9 => ?_) (fun c9 => ?_)
            · replace h := ite_t c9 h
              exact b81 k4 hk4 y1 y3 _ _ _ h hz (lv_sub hl [1, 2, 4] rfl)
            · replace h := ite_f c9 h
              refine lv_iload hx hb dX6_constantFor_63 (lv_at hl 0 rfl) ?_
              refine lv_aload_n hx hb dX6_constantFor_65 rfl (lv_at hl 1 rfl) ?_
              refine va_get (v := .ref (a 14)) hx hb hts inX6_constantFor_X6 hown hKK.1 hz.1 0 rfl rfl 23 (by decide) (hts _ (List.mem_of_getElem? (i := 2) rfl)) (fun _ h9 => h9) rfl dX6_constantFor_66 ?_
              refine lv_iload_n hx hb dX6_constantFor_69 rfl (lv_at hl 3 rfl) ?_
              obtain ⟨c10, h⟩ := ck_e h
              refine va_iald (f := (σ 14)) hx hb hKK.1 hz.1 14 0 rfl rfl c10 dX6_constantFor_70 ?_
              refine lv_aload_n hx hb dX6_constantFor_71 rfl (lv_at hl 1 rfl) ?_
              refine va_get (v := .ref (a 12)) hx hb hts inX6_constantFor_X6 hown hKK.1 hz.1 0 rfl rfl 21 (by decide) (hts _ (List.mem_of_getElem? (i := 3) rfl)) (fun _ h9 => h9) rfl dX6_constantFor_72 ?_
              refine lv_iload_n hx hb dX6_constantFor_75 rfl (lv_at hl 2 rfl) ?_
              obtain ⟨c11, h⟩ := ck_e h
              refine va_iald (f := (σ 12)) hx hb hKK.1 hz.1 12 0 rfl rfl c11 dX6_constantFor_76 ?_
              refine lv_isub hx hb dX6_constantFor_77 ?_
              refine lv_icmp_ge (tgt := 85) hx hb dX6_constantFor_78 (by decide) (fun c12 => ?_) (fun c12 => ?_)
              · replace h := ite_t c12 h
                refine lv_iload_n hx hb dX6_constantFor_85 rfl (lv_at hl 3 rfl) ?_
                refine lv_istore_n (lv' := [(2, .int y2), (4, .int (((σ 14) (Int32.toNatClampNeg y3)) - ((σ 12) (Int32.toNatClampNeg y1)))), (0, .ref (a 0)), (1, .int y1), (3, .int y3)]) hx hb dX6_constantFor_86 rfl hl (by decide) rfl (fun ls hl => ?_)
                refine lv_iinc (v := (y3 + (1 : Int32))) (lv' := [(3, .int (y3 + (1 : Int32))), (2, .int y2), (4, .int (((σ 14) (Int32.toNatClampNeg y3)) - ((σ 12) (Int32.toNatClampNeg y1)))), (0, .ref (a 0)), (1, .int y1)]) hx hb dX6_constantFor_87 hl (k := 4) rfl rfl (by decide) rfl (fun ls hl => ?_)
                refine lv_goto (tgt := 4) hx hb dX6_constantFor_90 (by decide) ?_
                exact hk4 y1 y2 (y3 + (1 : Int32)) _ _ _ h hz (lv_sub hl [3, 4, 1, 0] rfl)
              · replace h := ite_f c12 h
                exact b81 k4 hk4 y1 y3 _ _ _ h hz (lv_sub hl [1, 2, 4] rfl)
  have l4 : ∀  (n : Nat), ∀ (y1 : Int32) (y2 : Int32) (y3 : Int32) (H : Heap) (locs : List Loc) (ls : Array Slot), fX6_constantFor_l4 σ  n y1 y2 y3 = some r → zz (dC, dI) 18 a (wdM cI cZ a hh σ) s.heap H locs → lv_has ls 5 [(0, .ref (a 0)), (1, .int y1), (2, .int y2), (3, .int y3)] → W p l e rmX6_constantFor s m args below meth c H locs 0 0 Q (F0 m 4 ls []) := by
    intro  n
    induction n with
    | zero => intro y1 y2 y3 H locs ls h; exact nomatch h
    | succ n ih => exact s4  (fX6_constantFor_l4 σ  n) ih
  unfold fX6_constantFor at h
  refine lv_iconst (v := (-1 : Int32)) hx hb dX6_constantFor_0 (by decide) ?_
  refine lv_istore_n (lv' := [(2, .int (-1 : Int32)), (0, .ref (a 0)), (1, .int x1)]) hx hb dX6_constantFor_1 rfl hl (by decide) rfl (fun ls hl => ?_)
  refine lv_iconst (v := (0 : Int32)) hx hb dX6_constantFor_2 (by decide) ?_
  refine lv_istore_n (lv' := [(3, .int (0 : Int32)), (2, .int (-1 : Int32)), (0, .ref (a 0)), (1, .int x1)]) hx hb dX6_constantFor_3 rfl hl (by decide) rfl (fun ls hl => ?_)
  exact l4  FU x1 (-1 : Int32) (0 : Int32) _ _ _ h hz (lv_sub hl [2, 3, 1, 0] rfl)
