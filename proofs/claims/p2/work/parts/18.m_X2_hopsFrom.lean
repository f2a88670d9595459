def fX2_hopsFrom_s41 (σ : St) (k41 : Int32 → Int32 → Int32 → Option (Int32)) (y2 : Int32) (y3 : Int32) (y4 : Int32) : Option (Int32) :=
  (if (12 : Int32) < y4 then (some (-1 : Int32)) else ((bd1 (fX2_goesStraight σ y3 y2) fun r12 => (if r12 = 0 then ((bd1 (fX2_islandFor σ y3 y2) fun r16 => (if r16 = (-1 : Int32) then (some (-1 : Int32)) else ((bd1 (fX4_addressOf_i σ r16) fun r20 => k41 y2 r20 (y4 + (1 : Int32))))))) else (some y4)))))
def fX2_hopsFrom_l41 (σ : St)  : Nat → Int32 → Int32 → Int32 → Option (Int32) :=
  itr (fX2_hopsFrom_s41 σ ) (fun _ _ _ => none)
def fX2_hopsFrom (σ : St) (x1 : Int32) : Option (Int32) :=
  (bd1 (fX0_toldOf_p σ x1) fun r1 => (bd1 (fX2_addressOf σ x1) fun r4 => (bd1 (fX2_isLong σ x1) fun r7 => (if r7 = 0 then ((bd1 (fX2_aimOf σ x1) fun r23 => (if r23 = (-1 : Int32) then (some (-1 : Int32)) else (some (0 : Int32))))) else (fX2_hopsFrom_l41 σ  FU r1 r4 (0 : Int32))))))
abbrev rmX2_hopsFrom : Room := { frames := 3, cells := 0, slots := 0, locals := 73 }
set_option maxHeartbeats 4000000 in
set_option maxRecDepth 100000 in
theorem KX2_hopsFrom {l : Launch} {dC : Nat → ClassId} {dI : Nat → Nat → Nat} {cI cZ : ClassId} {a : Nat → Nat} {σ : St} {x1 : Int32} {r : Int32} (hok : okA 30 a) (h : fX2_hopsFrom σ x1 = some r) (sz : Nat) : Met l yX2_hopsFrom wsX2_hopsFrom rmX2_hopsFrom (Pz (dC, dI) cI cZ (wdC cI cZ a σ) sz [.ref (a 11), .int x1]) (Qzi (dC, dI) 30 a (wdC cI cZ a σ) sz r) 0 0 (aN 30 a sz) := by
  refine Met.ofW (cc := cX2_hopsFrom) (maxL := 6) (ret := (some .int)) (by decide) rfl ?_
  intro p e s m args below meth c s₁ B hml hv
  obtain ⟨hav, hsz, hP, hKK⟩ := hv
  have hx := B.exec
  have hb := B.bytes
  have hr := B.returns
  have hts := atoms_spec (ws := wsX2_hopsFrom) B.pre
  have hown : s.vm.findClass RX2 = some m.cls := findClass_of_methodNamed B.named
  have hlocks := B.notSynchronized
  have CF : CallFix p m c cX2_hopsFrom 6 s args wsX2_hopsFrom RX2 := ⟨hx, hb, hml, hown, hts⟩
  have hz : zz (dC, dI) 30 a (wdC cI cZ a σ) s.heap s.heap [] := ⟨hP, va_S.rf⟩
  have hl := lv_entry [.ref (a 11), .int x1] (n := 6) (Nat.le_of_ble_eq_true rfl)
  have hen : entryFrame m args 6 = entryFrame m ([.ref (a 11), .int x1] : List Value).toArray 6 := by rw [hav]
  rw [hen, lg_entry_eq]
  generalize (lg_sl [.ref (a 11), .int x1] ++ List.replicate (6 - (lg_sl [.ref (a 11), .int x1]).length) Slot.unset).toArray = ls at hl ⊢
  have hl : lv_has ls 6 [(0, .ref (a 11)), (1, .int x1)] := hl
  have eR : (headSpec wsX2_hopsFrom rmX2_hopsFrom).room = rmX2_hopsFrom := rfl
  rw [eR]
  have rt : ∀ (v : Int32) (t : St) (pc : Nat) (H : Heap) (locs : List Loc) (ls : Array Slot), decode cX2_hopsFrom pc = .ok (.ireturn, 1) → some v = some r → zz (dC, dI) 30 a (wdC cI cZ a σ) s.heap H locs → W p l e rmX2_hopsFrom s m args below meth c H locs 0 0 (MQ below (Qzi (dC, dI) 30 a (wdC cI cZ a σ) sz r) args s 0 0 (aN 30 a sz)) (F0 m pc ls [.int v]) := by
    intro v t pc H locs ls hd h hz
    cases h
    exact ziret hsz hx hb hr hlocks hz hd
  generalize (MQ below (Qzi (dC, dI) 30 a (wdC cI cZ a σ) sz r) args s 0 0 (aN 30 a sz)) = Q at rt ⊢
  have s41 : ∀ (k41 : Int32 → Int32 → Int32 → Option (Int32)) (hk41 : (∀ (y2 : Int32) (y3 : Int32) (y4 : Int32) (H : Heap) (locs : List Loc) (ls : Array Slot), k41 y2 y3 y4 = some r → zz (dC, dI) 30 a (wdC cI cZ a σ) s.heap H locs → lv_has ls 6 [(0, .ref (a 11)), (2, .int y2), (3, .int y3), (4, .int y4)] → W p l e rmX2_hopsFrom s m args below meth c H locs 0 0 Q (F0 m 41 ls []))) (y2 : Int32) (y3 : Int32) (y4 : Int32) (H : Heap) (locs : List Loc) (ls : Array Slot), fX2_hopsFrom_s41 σ k41 y2 y3 y4 = some r → zz (dC, dI) 30 a (wdC cI cZ a σ) s.heap H locs → lv_has ls 6 [(0, .ref (a 11)), (2, .int y2), (3, .int y3), (4, .int y4)] → W p l e rmX2_hopsFrom s m args below meth c H locs 0 0 Q (F0 m 41 ls []) := by
    intro k41 hk41 y2 y3 y4 H locs ls h hz hl
    unfold fX2_hopsFrom_s41 at h
    refine lv_iload hx hb dX2_hopsFrom_41 (lv_at hl 3 rfl) ?_
    refine lv_bipush (v := (12 : Int32)) hx hb dX2_hopsFrom_43 (by decide) ?_
    refine lv_icmp_gt (tgt := 92) hx hb dX2_hopsFrom_45 (by decide) (fun c11 => ?_) (fun c11 => ?_)
    · replace h := ite_t c11 h
      refine lv_iconst (v := (-1 : Int32)) hx hb dX2_hopsFrom_92 (by decide) ?_
      exact rt (-1 : Int32) σ 93 _ _ _ dX2_hopsFrom_93 h hz
    · replace h := ite_f c11 h
      refine lv_aload_n hx hb dX2_hopsFrom_48 rfl (lv_at hl 0 rfl) ?_
      refine lv_iload_n hx hb dX2_hopsFrom_49 rfl (lv_at hl 2 rfl) ?_
      refine lv_iload_n hx hb dX2_hopsFrom_50 rfl (lv_at hl 1 rfl) ?_
      obtain ⟨r12, e14, h⟩ := bd1_e h
      refine zcallVi (As := [.int y3, .int y2]) (rest := []) CF hKK (KX2_goesStraight (dC := dC) (dI := dI) (cI := cI) (cZ := cZ) (a := a) hok e14) (cwV 2 hts gX2_hopsFrom_X2_goesStraight rfl rfl rfl cdX2_goesStraight ⟨Nat.le_of_ble_eq_true rfl, Nat.le_of_ble_eq_true rfl⟩) 11 2 rfl rfl hz rfl hl.1 rfl (Nat.le_of_ble_eq_true rfl) dX2_hopsFrom_51 ⟨Nat.le_refl _, Nat.le_refl _⟩ (fun H locs hz => ?_)
      refine lv_if_eq (tgt := 60) hx hb dX2_hopsFrom_54 (by decide) (fun c15 => ?_) (fun c15 => ?_)
      · replace h := ite_t c15 h
        refine lv_aload_n hx hb dX2_hopsFrom_60 rfl (lv_at hl 0 rfl) ?_
        refine lv_iload_n hx hb dX2_hopsFrom_61 rfl (lv_at hl 2 rfl) ?_
        refine lv_iload_n hx hb dX2_hopsFrom_62 rfl (lv_at hl 1 rfl) ?_
        obtain ⟨r16, e18, h⟩ := bd1_e h
        refine zcallVi (As := [.int y3, .int y2]) (rest := []) CF hKK (KX2_islandFor (dC := dC) (dI := dI) (cI := cI) (cZ := cZ) (a := a) hok e18) (cwV 2 hts gX2_hopsFrom_X2_islandFor rfl rfl rfl cdX2_islandFor ⟨Nat.le_of_ble_eq_true rfl, Nat.le_of_ble_eq_true rfl⟩) 11 2 rfl rfl hz rfl hl.1 rfl (Nat.le_of_ble_eq_true rfl) dX2_hopsFrom_63 ⟨Nat.le_refl _, Nat.le_refl _⟩ (fun H locs hz => ?_)
        refine lv_istore (lv' := [(5, .int r16), (0, .ref (a 11)), (2, .int y2), (3, .int y3), (4, .int y4)]) hx hb dX2_hopsFrom_66 hl (by decide) rfl (fun ls hl => ?_)
        refine lv_iload hx hb dX2_hopsFrom_68 (lv_at hl 0 rfl) ?_
        refine lv_iconst (v := (-1 : Int32)) hx hb dX2_hopsFrom_70 (by decide) ?_
        refine lv_icmp_ne (tgt := 76) hx hb dX2_hopsFrom_71 (by decide) (fun c19 => ?_) (fun c19 => ?_)
        · replace h := ite_f c19 h
          refine lv_aload_n hx hb dX2_hopsFrom_76 rfl (lv_at hl 1 rfl) ?_
          refine va_get (v := .ref (a 12)) hx hb hts inX2_hopsFrom_X2 hown hKK.1 hz.1 11 rfl rfl 2 (by decide) (hts _ (List.mem_of_getElem? (i := 2) rfl)) (fun _ h9 => h9) rfl dX2_hopsFrom_77 ?_
          refine lv_iload hx hb dX2_hopsFrom_80 (lv_at hl 0 rfl) ?_
          obtain ⟨r20, e22, h⟩ := bd1_e h
          refine zcallVi (As := [.int r16]) (rest := []) CF hKK (KX4_addressOf_i (dC := dC) (dI := dI) (cI := cI) (cZ := cZ) (a := a) hok e22) (cwV 1 hts gX2_hopsFrom_X4_addressOf rfl rfl rfl cdX4_addressOf ⟨Nat.le_of_ble_eq_true rfl, Nat.le_of_ble_eq_true rfl⟩) 12 4 rfl rfl hz rfl hl.1 rfl (Nat.le_of_ble_eq_true rfl) dX2_hopsFrom_82 ⟨Nat.le_refl _, Nat.le_refl _⟩ (fun H locs hz => ?_)
          refine lv_istore_n (lv' := [(3, .int r20), (5, .int r16), (0, .ref (a 11)), (2, .int y2), (4, .int y4)]) hx hb dX2_hopsFrom_85 rfl hl (by decide) rfl (fun ls hl => ?_)
          refine lv_iinc (v := (y4 + (1 : Int32))) (lv' := [(4, .int (y4 + (1 : Int32))), (3, .int r20), (5, .int r16), (0, .ref (a 11)), (2, .int y2)]) hx hb dX2_hopsFrom_86 hl (k := 4) rfl rfl (by decide) rfl (fun ls hl => ?_)
          refine lv_goto (tgt := 41) hx hb dX2_hopsFrom_89 (by decide) ?_
          exact hk41 y2 r20 (y4 + (1 : Int32)) _ _ _ h hz (lv_sub hl [3, 4, 1, 0] rfl)
        · replace h := ite_t c19 h
          refine lv_iconst (v := (-1 : Int32)) hx hb dX2_hopsFrom_74 (by decide) ?_
          exact rt (-1 : Int32) σ 75 _ _ _ dX2_hopsFrom_75 h hz
      · replace h := ite_f c15 h
        refine lv_iload hx hb dX2_hopsFrom_57 (lv_at hl 3 rfl) ?_
        exact rt y4 σ 59 _ _ _ dX2_hopsFrom_59 h hz
  have l41 : ∀  (n : Nat), ∀ (y2 : Int32) (y3 : Int32) (y4 : Int32) (H : Heap) (locs : List Loc) (ls : Array Slot), fX2_hopsFrom_l41 σ  n y2 y3 y4 = some r → zz (dC, dI) 30 a (wdC cI cZ a σ) s.heap H locs → lv_has ls 6 [(0, .ref (a 11)), (2, .int y2), (3, .int y3), (4, .int y4)] → W p l e rmX2_hopsFrom s m args below meth c H locs 0 0 Q (F0 m 41 ls []) := by
    intro  n
    induction n with
    | zero => intro y2 y3 y4 H locs ls h; exact nomatch h
    | succ n ih => exact s41  (fX2_hopsFrom_l41 σ  n) ih
  unfold fX2_hopsFrom at h
  refine lv_aload_n hx hb dX2_hopsFrom_0 rfl (lv_at hl 0 rfl) ?_
  refine va_get (v := .ref (a 7)) hx hb hts inX2_hopsFrom_X2 hown hKK.1 hz.1 11 rfl rfl 0 (by decide) (hts _ (List.mem_of_getElem? (i := 1) rfl)) (fun _ h9 => h9) rfl dX2_hopsFrom_1 ?_
  refine lv_iload_n hx hb dX2_hopsFrom_4 rfl (lv_at hl 1 rfl) ?_
  obtain ⟨r1, e3, h⟩ := bd1_e h
  refine zcallVi (As := [.int x1]) (rest := []) CF hKK (KX0_toldOf_p (dC := dC) (dI := dI) (cI := cI) (cZ := cZ) (a := a) hok e3) (cwV 1 hts gX2_hopsFrom_X0_toldOf rfl rfl rfl cdX0_toldOf ⟨Nat.le_of_ble_eq_true rfl, Nat.le_of_ble_eq_true rfl⟩) 7 0 rfl rfl hz rfl hl.1 rfl (Nat.le_of_ble_eq_true rfl) dX2_hopsFrom_5 ⟨Nat.le_refl _, Nat.le_refl _⟩ (fun H locs hz => ?_)
  refine lv_istore_n (lv' := [(2, .int r1), (0, .ref (a 11)), (1, .int x1)]) hx hb dX2_hopsFrom_8 rfl hl (by decide) rfl (fun ls hl => ?_)
  refine lv_aload_n hx hb dX2_hopsFrom_9 rfl (lv_at hl 1 rfl) ?_
  refine lv_iload_n hx hb dX2_hopsFrom_10 rfl (lv_at hl 2 rfl) ?_
  obtain ⟨r4, e6, h⟩ := bd1_e h
  refine zcallVi (As := [.int x1]) (rest := []) CF hKK (KX2_addressOf (dC := dC) (dI := dI) (cI := cI) (cZ := cZ) (a := a) hok e6) (cwV 1 hts gX2_hopsFrom_X2_addressOf rfl rfl rfl cdX2_addressOf ⟨Nat.le_of_ble_eq_true rfl, Nat.le_of_ble_eq_true rfl⟩) 11 2 rfl rfl hz rfl hl.1 rfl (Nat.le_of_ble_eq_true rfl) dX2_hopsFrom_11 ⟨Nat.le_refl _, Nat.le_refl _⟩ (fun H locs hz => ?_)
  refine lv_istore_n (lv' := [(3, .int r4), (2, .int r1), (0, .ref (a 11)), (1, .int x1)]) hx hb dX2_hopsFrom_14 rfl hl (by decide) rfl (fun ls hl => ?_)
  refine lv_aload_n hx hb dX2_hopsFrom_15 rfl (lv_at hl 2 rfl) ?_
  refine lv_iload_n hx hb dX2_hopsFrom_16 rfl (lv_at hl 3 rfl) ?_
  obtain ⟨r7, e9, h⟩ := bd1_e h
  refine zcallVi (As := [.int x1]) (rest := []) CF hKK (KX2_isLong (dC := dC) (dI := dI) (cI := cI) (cZ := cZ) (a := a) hok e9) (cwV 1 hts gX2_hopsFrom_X2_isLong rfl rfl rfl cdX2_isLong ⟨Nat.le_of_ble_eq_true rfl, Nat.le_of_ble_eq_true rfl⟩) 11 2 rfl rfl hz rfl hl.1 rfl (Nat.le_of_ble_eq_true rfl) dX2_hopsFrom_17 ⟨Nat.le_refl _, Nat.le_refl _⟩ (fun H locs hz => ?_)
  refine lv_if_ne (tgt := 38) hx hb dX2_hopsFrom_20 (by decide) (fun c10 => ?_) (fun c10 => ?_)
  · replace h := ite_f c10 h
    refine lv_iconst (v := (0 : Int32)) hx hb dX2_hopsFrom_38 (by decide) ?_
    refine lv_istore (lv' := [(4, .int (0 : Int32)), (3, .int r4), (2, .int r1), (0, .ref (a 11)), (1, .int x1)]) hx hb dX2_hopsFrom_39 hl (by decide) rfl (fun ls hl => ?_)
    exact l41  FU r1 r4 (0 : Int32) _ _ _ h hz (lv_sub hl [3, 2, 1, 0] rfl)
  · replace h := ite_t c10 h
    refine lv_aload_n hx hb dX2_hopsFrom_23 rfl (lv_at hl 2 rfl) ?_
    refine lv_iload_n hx hb dX2_hopsFrom_24 rfl (lv_at hl 3 rfl) ?_
    obtain ⟨r23, e25, h⟩ := bd1_e h
    refine zcallVi (As := [.int x1]) (rest := []) CF hKK (KX2_aimOf (dC := dC) (dI := dI) (cI := cI) (cZ := cZ) (a := a) hok e25) (cwV 1 hts gX2_hopsFrom_X2_aimOf rfl rfl rfl cdX2_aimOf ⟨Nat.le_of_ble_eq_true rfl, Nat.le_of_ble_eq_true rfl⟩) 11 2 rfl rfl hz rfl hl.1 rfl (Nat.le_of_ble_eq_true rfl) dX2_hopsFrom_25 ⟨Nat.le_refl _, Nat.le_refl _⟩ (fun H locs hz => ?_)
    refine lv_iconst (v := (-1 : Int32)) hx hb dX2_hopsFrom_28 (by decide) ?_
    refine lv_icmp_ne (tgt := 36) hx hb dX2_hopsFrom_29 (by decide) (fun c26 => ?_) (fun c26 => ?_)
    · replace h := ite_f c26 h
      refine lv_iconst (v := (0 : Int32)) hx hb dX2_hopsFrom_36 (by decide) ?_
      exact rt (0 : Int32) σ 37 _ _ _ dX2_hopsFrom_37 h hz
    · replace h := ite_t c26 h
      refine lv_iconst (v := (-1 : Int32)) hx hb dX2_hopsFrom_32 (by decide) ?_
      refine lv_goto (tgt := 37) hx hb dX2_hopsFrom_33 (by decide) ?_
      exact rt (-1 : Int32) σ 37 _ _ _ dX2_hopsFrom_37 h hz
def fX3_kindBegunBy (σ : St) (x1 : Int32) : Option (Int32) :=
  (if x1 = (58 : Int32) then (some (3 : Int32)) else (if x1 = (97 : Int32) then (some (4 : Int32)) else (if x1 = (98 : Int32) then (some (2 : Int32)) else (if x1 = (108 : Int32) then (some (1 : Int32)) else (if x1 = (110 : Int32) then (some (0 : Int32)) else (if x1 = (114 : Int32) then (some (5 : Int32)) else some (-1 : Int32)))))))
abbrev rmX3_kindBegunBy : Room := { frames := 0, cells := 0, slots := 0, locals := 0 }
set_option maxHeartbeats 4000000 in
set_option maxRecDepth 100000 in
theorem KX3_kindBegunBy {l : Launch} {dC : Nat → ClassId} {dI : Nat → Nat → Nat} {cI cZ : ClassId} {a : Nat → Nat} {σ : St} {x1 : Int32} {r : Int32} (hok : okA 30 a) (h : fX3_kindBegunBy σ x1 = some r) (sz : Nat) : Met l yX3_kindBegunBy wsX3_kindBegunBy rmX3_kindBegunBy (Pz (dC, dI) cI cZ (wdC cI cZ a σ) sz [.int x1]) (Qzi (dC, dI) 30 a (wdC cI cZ a σ) sz r) 0 0 (aN 30 a sz) := by
  refine Met.ofW (cc := cX3_kindBegunBy) (maxL := 1) (ret := (some .int)) (by decide) rfl ?_
  intro p e s m args below meth c s₁ B hml hv
  obtain ⟨hav, hsz, hP, hKK⟩ := hv
  have hx := B.exec
  have hb := B.bytes
  have hr := B.returns
  have hts := atoms_spec (ws := wsX3_kindBegunBy) B.pre
  have hown : s.vm.findClass RX3 = some m.cls := findClass_of_methodNamed B.named
  have hlocks := B.notSynchronized
  have CF : CallFix p m c cX3_kindBegunBy 1 s args wsX3_kindBegunBy RX3 := ⟨hx, hb, hml, hown, hts⟩
  have hz : zz (dC, dI) 30 a (wdC cI cZ a σ) s.heap s.heap [] := ⟨hP, va_S.rf⟩
  have hl := lv_entry [.int x1] (n := 1) (Nat.le_of_ble_eq_true rfl)
  have hen : entryFrame m args 1 = entryFrame m ([.int x1] : List Value).toArray 1 := by rw [hav]
  rw [hen, lg_entry_eq]
  generalize (lg_sl [.int x1] ++ List.replicate (1 - (lg_sl [.int x1]).length) Slot.unset).toArray = ls at hl ⊢
  have hl : lv_has ls 1 [(0, .int x1)] := hl
  have eR : (headSpec wsX3_kindBegunBy rmX3_kindBegunBy).room = rmX3_kindBegunBy := rfl
  rw [eR]
  have rt : ∀ (v : Int32) (t : St) (pc : Nat) (H : Heap) (locs : List Loc) (ls : Array Slot), decode cX3_kindBegunBy pc = .ok (.ireturn, 1) → some v = some r → zz (dC, dI) 30 a (wdC cI cZ a σ) s.heap H locs → W p l e rmX3_kindBegunBy s m args below meth c H locs 0 0 (MQ below (Qzi (dC, dI) 30 a (wdC cI cZ a σ) sz r) args s 0 0 (aN 30 a sz)) (F0 m pc ls [.int v]) := by
    intro v t pc H locs ls hd h hz
    cases h
    exact ziret hsz hx hb hr hlocks hz hd
  generalize (MQ below (Qzi (dC, dI) 30 a (wdC cI cZ a σ) sz r) args s 0 0 (aN 30 a sz)) = Q at rt ⊢
  unfold fX3_kindBegunBy at h
  refine lv_iload_n hx hb dX3_kindBegunBy_0 rfl (lv_at hl 0 rfl) ?_
  by_cases c1 : x1 = (58 : Int32)
  · replace h := ite_t c1 h
    refine lv_lookup (tgt := 66) (off := 65) hx hb dX3_kindBegunBy_1 (by decide) (by rw [c1]; rfl) (by decide) ?_
    refine lv_iconst (v := (3 : Int32)) hx hb dX3_kindBegunBy_66 (by decide) ?_
    exact rt (3 : Int32) σ 67 _ _ _ dX3_kindBegunBy_67 h hz
  replace h := ite_f c1 h
  by_cases c2 : x1 = (97 : Int32)
  · replace h := ite_t c2 h
    refine lv_lookup (tgt := 68) (off := 67) hx hb dX3_kindBegunBy_1 (by decide) (by rw [c2]; rfl) (by decide) ?_
    refine lv_iconst (v := (4 : Int32)) hx hb dX3_kindBegunBy_68 (by decide) ?_
    exact rt (4 : Int32) σ 69 _ _ _ dX3_kindBegunBy_69 h hz
  replace h := ite_f c2 h
  by_cases c3 : x1 = (98 : Int32)
  · replace h := ite_t c3 h
    refine lv_lookup (tgt := 64) (off := 63) hx hb dX3_kindBegunBy_1 (by decide) (by rw [c3]; rfl) (by decide) ?_
    refine lv_iconst (v := (2 : Int32)) hx hb dX3_kindBegunBy_64 (by decide) ?_
    exact rt (2 : Int32) σ 65 _ _ _ dX3_kindBegunBy_65 h hz
  replace h := ite_f c3 h
  by_cases c4 : x1 = (108 : Int32)
  · replace h := ite_t c4 h
    refine lv_lookup (tgt := 62) (off := 61) hx hb dX3_kindBegunBy_1 (by decide) (by rw [c4]; rfl) (by decide) ?_
    refine lv_iconst (v := (1 : Int32)) hx hb dX3_kindBegunBy_62 (by decide) ?_
    exact rt (1 : Int32) σ 63 _ _ _ dX3_kindBegunBy_63 h hz
  replace h := ite_f c4 h
  by_cases c5 : x1 = (110 : Int32)
  · replace h := ite_t c5 h
    refine lv_lookup (tgt := 60) (off := 59) hx hb dX3_kindBegunBy_1 (by decide) (by rw [c5]; rfl) (by decide) ?_
    refine lv_iconst (v := (0 : Int32)) hx hb dX3_kindBegunBy_60 (by decide) ?_
    exact rt (0 : Int32) σ 61 _ _ _ dX3_kindBegunBy_61 h hz
  replace h := ite_f c5 h
  by_cases c6 : x1 = (114 : Int32)
  · replace h := ite_t c6 h
    refine lv_lookup (tgt := 70) (off := 69) hx hb dX3_kindBegunBy_1 (by decide) (by rw [c6]; rfl) (by decide) ?_
    refine lv_iconst (v := (5 : Int32)) hx hb dX3_kindBegunBy_70 (by decide) ?_
    exact rt (5 : Int32) σ 71 _ _ _ dX3_kindBegunBy_71 h hz
  replace h := ite_f c6 h
  refine lv_lookup (tgt := 72) (off := 71) hx hb dX3_kindBegunBy_1 (by decide) (by show Op.lookupswitch.offset [(58, 65), (97, 67), (98, 63), (108, 61), (110, 59), (114, 69)] 71 _ = _; rw [lv_osw c1 (a := 58) rfl, lv_osw c2 (a := 97) rfl, lv_osw c3 (a := 98) rfl, lv_osw c4 (a := 108) rfl, lv_osw c5 (a := 110) rfl, lv_osw c6 (a := 114) rfl]; rfl) (by decide) ?_
  refine lv_iconst (v := (-1 : Int32)) hx hb dX3_kindBegunBy_72 (by decide) ?_
  exact rt (-1 : Int32) σ 73 _ _ _ dX3_kindBegunBy_73 h hz
def fX3_begins_b56  (σ : St) (y2 : Int32) : Option (Int32 × St) :=
  some ((1 : Int32), (si σ 43 y2))
def fX3_begins (σ : St) (x1 : Int32) : Option (Int32 × St) :=
  (bd1 (fX3_kindBegunBy σ x1) fun r1 => (if r1 = (-1 : Int32) then (some ((0 : Int32), σ)) else ((bd1 (fX0_size_r σ ) fun r5 => (if r5 < (24 : Int32) then ((if r1 = (5 : Int32) then ((bd2 (fX0_add_r σ (5 : Int32) (0 : Int32)) fun r12 s13 => (ck (r12 = 0 ∨ r12 = 1) <| some (r12, s13)))) else ((if r1 = (3 : Int32) then ((if (σ 44 0) = (255 : Int32) then (some ((0 : Int32), σ)) else (fX3_begins_b56  σ r1))) else (fX3_begins_b56  σ r1))))) else (some ((0 : Int32), σ)))))))
abbrev rmX3_begins : Room := { frames := 1, cells := 0, slots := 0, locals := 22 }
set_option maxHeartbeats 4000000 in
set_option maxRecDepth 100000 in
theorem KX3_begins {l : Launch} {dC : Nat → ClassId} {dI : Nat → Nat → Nat} {cI cZ : ClassId} {a : Nat → Nat} {σ : St} {x1 : Int32} {r : Int32} {σ2 : St} (hok : okA 30 a) (h : fX3_begins σ x1 = some (r, σ2)) (sz : Nat) : Met l yX3_begins wsX3_begins rmX3_begins (Pz (dC, dI) cI cZ (wdC cI cZ a σ) sz [.ref (a 3), .int x1]) (Qzi (dC, dI) 30 a (wdC cI cZ a σ2) sz r) 0 0 (aN 30 a sz) := by
  refine Met.ofW (cc := cX3_begins) (maxL := 3) (ret := (some .boolean)) (by decide) rfl ?_
  intro p e s m args below meth c s₁ B hml hv
  obtain ⟨hav, hsz, hP, hKK⟩ := hv
  have hx := B.exec
  have hb := B.bytes
  have hr := B.returns
  have hts := atoms_spec (ws := wsX3_begins) B.pre
  have hown : s.vm.findClass RX3 = some m.cls := findClass_of_methodNamed B.named
  have hlocks := B.notSynchronized
  have CF : CallFix p m c cX3_begins 3 s args wsX3_begins RX3 := ⟨hx, hb, hml, hown, hts⟩
  have hz : zz (dC, dI) 30 a (wdC cI cZ a σ) s.heap s.heap [] := ⟨hP, va_S.rf⟩
  have hl := lv_entry [.ref (a 3), .int x1] (n := 3) (Nat.le_of_ble_eq_true rfl)
  have hen : entryFrame m args 3 = entryFrame m ([.ref (a 3), .int x1] : List Value).toArray 3 := by rw [hav]
  rw [hen, lg_entry_eq]
  generalize (lg_sl [.ref (a 3), .int x1] ++ List.replicate (3 - (lg_sl [.ref (a 3), .int x1]).length) Slot.unset).toArray = ls at hl ⊢
  have hl : lv_has ls 3 [(0, .ref (a 3)), (1, .int x1)] := hl
  have eR : (headSpec wsX3_begins rmX3_begins).room = rmX3_begins := rfl
  rw [eR]
  have rt : ∀ (v : Int32) (t : St) (pc : Nat) (H : Heap) (locs : List Loc) (ls : Array Slot), decode cX3_begins pc = .ok (.ireturn, 1) → some (v, t) = some (r, σ2) → zz (dC, dI) 30 a (wdC cI cZ a t) s.heap H locs → (v = 0 ∨ v = 1) → W p l e rmX3_begins s m args below meth c H locs 0 0 (MQ below (Qzi (dC, dI) 30 a (wdC cI cZ a σ2) sz r) args s 0 0 (aN 30 a sz)) (F0 m pc ls [.int v]) := by
    intro v t pc H locs ls hd h hz hv
    cases h
    exact zzret hsz hx hb hr hlocks hv hz hd
  generalize (MQ below (Qzi (dC, dI) 30 a (wdC cI cZ a σ2) sz r) args s 0 0 (aN 30 a sz)) = Q at rt ⊢
  have b56 : ∀  (σ : St) (y2 : Int32) (H : Heap) (locs : List Loc) (ls : Array Slot), fX3_begins_b56  σ y2 = some (r, σ2) → zz (dC, dI) 30 a (wdC cI cZ a σ) s.heap H locs → lv_has ls 3 [(0, .ref (a 3)), (2, .int y2)] → W p l e rmX3_begins s m args below meth c H locs 0 0 Q (F0 m 56 ls []) := by
    intro  σ y2 H locs ls h hz hl
    unfold fX3_begins_b56 at h
    refine lv_aload_n hx hb dX3_begins_56 rfl (lv_at hl 0 rfl) ?_
    refine lv_iload_n hx hb dX3_begins_57 rfl (lv_at hl 1 rfl) ?_
    refine zput (ty := .int) (w' := wdC cI cZ a (si σ 43 y2)) hx hb hts inX3_begins_X3 tyX3 tyX3_ok nmX3 hown hKK hok wkC hz 3 rfl rfl 1 (by decide) (hts _ (List.mem_of_getElem? (i := 3) rfl)) (fun _ h9 => h9) rfl rfl rfl rfl (Nat.le_of_ble_eq_true rfl) setCi_43 dX3_begins_58 (fun H locs hz => ?_)
    refine lv_iconst (v := (1 : Int32)) hx hb dX3_begins_61 (by decide) ?_
    exact rt (1 : Int32) (si σ 43 y2) 62 _ _ _ dX3_begins_62 h hz (Or.inr rfl)
  unfold fX3_begins at h
  refine lv_iload_n hx hb dX3_begins_0 rfl (lv_at hl 1 rfl) ?_
  obtain ⟨r1, e3, h⟩ := bd1_e h
  refine zcallSi (As := [.int x1]) (rest := []) CF hKK (KX3_kindBegunBy (dC := dC) (dI := dI) (cI := cI) (cZ := cZ) (a := a) hok e3) (va_cwS 1 hts gX3_begins_X3_kindBegunBy rfl rfl rfl cdX3_kindBegunBy.2 ⟨Nat.le_of_ble_eq_true rfl, Nat.le_of_ble_eq_true rfl⟩) hz rfl hl.1 rfl (Nat.le_of_ble_eq_true rfl) dX3_begins_1 ⟨Nat.le_refl _, Nat.le_refl _⟩ (fun H locs hz => ?_)
  refine lv_istore_n (lv' := [(2, .int r1), (0, .ref (a 3)), (1, .int x1)]) hx hb dX3_begins_4 rfl hl (by decide) rfl (fun ls hl => ?_)
  refine lv_iload_n hx hb dX3_begins_5 rfl (lv_at hl 0 rfl) ?_
  refine lv_iconst (v := (-1 : Int32)) hx hb dX3_begins_6 (by decide) ?_
  refine lv_icmp_eq (tgt := 22) hx hb dX3_begins_7 (by decide) (fun c4 => ?_) (fun c4 => ?_)
  · replace h := ite_t c4 h
    refine lv_iconst (v := (0 : Int32)) hx hb dX3_begins_22 (by decide) ?_
    exact rt (0 : Int32) σ 23 _ _ _ dX3_begins_23 h hz (Or.inl rfl)
  · replace h := ite_f c4 h
    refine lv_aload_n hx hb dX3_begins_10 rfl (lv_at hl 1 rfl) ?_
    refine va_get (v := .ref (a 4)) hx hb hts inX3_begins_X3 hown hKK.1 hz.1 3 rfl rfl 0 (by decide) (hts _ (List.mem_of_getElem? (i := 1) rfl)) (fun _ h9 => h9) rfl dX3_begins_11 ?_
    obtain ⟨r5, e7, h⟩ := bd1_e h
    refine zcallVi (As := []) (rest := []) CF hKK (KX0_size_r (dC := dC) (dI := dI) (cI := cI) (cZ := cZ) (a := a) hok e7) (cwV 0 hts gX3_begins_X0_size rfl rfl rfl cdX0_size ⟨Nat.le_of_ble_eq_true rfl, Nat.le_of_ble_eq_true rfl⟩) 4 0 rfl rfl hz rfl hl.1 rfl (Nat.le_of_ble_eq_true rfl) dX3_begins_14 ⟨Nat.le_refl _, Nat.le_refl _⟩ (fun H locs hz => ?_)
    refine lv_bipush (v := (24 : Int32)) hx hb dX3_begins_17 (by decide) ?_
    refine lv_icmp_lt (tgt := 24) hx hb dX3_begins_19 (by decide) (fun c8 => ?_) (fun c8 => ?_)
    · replace h := ite_t c8 h
      refine lv_iload_n hx hb dX3_begins_24 rfl (lv_at hl 0 rfl) ?_
      refine lv_iconst (v := (5 : Int32)) hx hb dX3_begins_25 (by decide) ?_
      refine lv_icmp_ne (tgt := 39) hx hb dX3_begins_26 (by decide) (fun c9 => ?_) (fun c9 => ?_)
      · replace h := ite_f c9 h
        refine lv_iload_n hx hb dX3_begins_39 rfl (lv_at hl 0 rfl) ?_
        refine lv_iconst (v := (3 : Int32)) hx hb dX3_begins_40 (by decide) ?_
        refine lv_icmp_ne (tgt := 56) hx hb dX3_begins_41 (by decide) (fun c10 => ?_) (fun c10 => ?_)
        · replace h := ite_f c10 h
          exact b56  σ r1 _ _ _ h hz (lv_sub hl [1, 0] rfl)
        · replace h := ite_t c10 h
          refine lv_aload_n hx hb dX3_begins_44 rfl (lv_at hl 1 rfl) ?_
          refine va_get (v := .int (σ 44 0)) hx hb hts inX3_begins_X3 hown hKK.1 hz.1 3 rfl rfl 2 (by decide) (hts _ (List.mem_of_getElem? (i := 2) rfl)) (fun _ h9 => h9) rfl dX3_begins_45 ?_
          refine lv_sipush (v := (255 : Int32)) hx hb dX3_begins_48 (by decide) ?_
          refine lv_icmp_ne (tgt := 56) hx hb dX3_begins_51 (by decide) (fun c11 => ?_) (fun c11 => ?_)
          · replace h := ite_f c11 h
            exact b56  σ r1 _ _ _ h hz (lv_sub hl [1, 0] rfl)
          · replace h := ite_t c11 h
            refine lv_iconst (v := (0 : Int32)) hx hb dX3_begins_54 (by decide) ?_
            exact rt (0 : Int32) σ 55 _ _ _ dX3_begins_55 h hz (Or.inl rfl)
      · replace h := ite_t c9 h
        refine lv_aload_n hx hb dX3_begins_29 rfl (lv_at hl 1 rfl) ?_
        refine va_get (v := .ref (a 4)) hx hb hts inX3_begins_X3 hown hKK.1 hz.1 3 rfl rfl 0 (by decide) (hts _ (List.mem_of_getElem? (i := 1) rfl)) (fun _ h9 => h9) rfl dX3_begins_30 ?_
        refine lv_iconst (v := (5 : Int32)) hx hb dX3_begins_33 (by decide) ?_
        refine lv_iconst (v := (0 : Int32)) hx hb dX3_begins_34 (by decide) ?_
        obtain ⟨r12, s13, e14, h⟩ := bd2_e h
        refine zcallVi (As := [.int (5 : Int32), .int (0 : Int32)]) (rest := []) CF hKK (KX0_add_r (dC := dC) (dI := dI) (cI := cI) (cZ := cZ) (a := a) hok e14) (cwV 2 hts gX3_begins_X0_add rfl rfl rfl cdX0_add ⟨Nat.le_of_ble_eq_true rfl, Nat.le_of_ble_eq_true rfl⟩) 4 0 rfl rfl hz rfl hl.1 rfl (Nat.le_of_ble_eq_true rfl) dX3_begins_35 ⟨Nat.le_refl _, Nat.le_refl _⟩ (fun H locs hz => ?_)
        obtain ⟨c15, h⟩ := ck_e h
        exact rt r12 s13 38 _ _ _ dX3_begins_38 h hz c15
    · replace h := ite_f c8 h
      refine lv_iconst (v := (0 : Int32)) hx hb dX3_begins_22 (by decide) ?_
      exact rt (0 : Int32) σ 23 _ _ _ dX3_begins_23 h hz (Or.inl rfl)
def fX3_endsWithLabel (σ : St) (x1 : Int32) (x2 : Int32) : Option (Int32 × St) :=
  (if x1 = (2 : Int32) then ((bd2 (fX0_add_r (si σ 45 ((σ 45 0) ||| ((1 : Int32) <<< (x2 &&& 31)))) (2 : Int32) x2) fun r7 s8 => (ck (r7 = 0 ∨ r7 = 1) <| some (r7, s8)))) else ((if ((σ 44 0) &&& ((1 : Int32) <<< (x2 &&& 31))) = 0 then ((bd2 (fX0_add_r (si σ 44 ((σ 44 0) ||| ((1 : Int32) <<< (x2 &&& 31)))) (3 : Int32) x2) fun r3 s4 => (ck (r3 = 0 ∨ r3 = 1) <| some (r3, s4)))) else (some ((0 : Int32), σ)))))
abbrev rmX3_endsWithLabel : Room := { frames := 1, cells := 0, slots := 0, locals := 22 }
set_option maxHeartbeats 4000000 in
set_option maxRecDepth 100000 in
theorem KX3_endsWithLabel {l : Launch} {dC : Nat → ClassId} {dI : Nat → Nat → Nat} {cI cZ : ClassId} {a : Nat → Nat} {σ : St} {x1 : Int32} {x2 : Int32} {r : Int32} {σ2 : St} (hok : okA 30 a) (h : fX3_endsWithLabel σ x1 x2 = some (r, σ2)) (sz : Nat) : Met l yX3_endsWithLabel wsX3_endsWithLabel rmX3_endsWithLabel (Pz (dC, dI) cI cZ (wdC cI cZ a σ) sz [.ref (a 3), .int x1, .int x2]) (Qzi (dC, dI) 30 a (wdC cI cZ a σ2) sz r) 0 0 (aN 30 a sz) := by
  refine Met.ofW (cc := cX3_endsWithLabel) (maxL := 4) (ret := (some .boolean)) (by decide) rfl ?_
  intro p e s m args below meth c s₁ B hml hv
  obtain ⟨hav, hsz, hP, hKK⟩ := hv
  have hx := B.exec
  have hb := B.bytes
  have hr := B.returns
  have hts := atoms_spec (ws := wsX3_endsWithLabel) B.pre
  have hown : s.vm.findClass RX3 = some m.cls := findClass_of_methodNamed B.named
  have hlocks := B.notSynchronized
  have CF : CallFix p m c cX3_endsWithLabel 4 s args wsX3_endsWithLabel RX3 := ⟨hx, hb, hml, hown, hts⟩
  have hz : zz (dC, dI) 30 a (wdC cI cZ a σ) s.heap s.heap [] := ⟨hP, va_S.rf⟩
  have hl := lv_entry [.ref (a 3), .int x1, .int x2] (n := 4) (Nat.le_of_ble_eq_true rfl)
  have hen : entryFrame m args 4 = entryFrame m ([.ref (a 3), .int x1, .int x2] : List Value).toArray 4 := by rw [hav]
  rw [hen, lg_entry_eq]
  generalize (lg_sl [.ref (a 3), .int x1, .int x2] ++ List.replicate (4 - (lg_sl [.ref (a 3), .int x1, .int x2]).length) Slot.unset).toArray = ls at hl ⊢
  have hl : lv_has ls 4 [(0, .ref (a 3)), (1, .int x1), (2, .int x2)] := hl
  have eR : (headSpec wsX3_endsWithLabel rmX3_endsWithLabel).room = rmX3_endsWithLabel := rfl
  rw [eR]
  have rt : ∀ (v : Int32) (t : St) (pc : Nat) (H : Heap) (locs : List Loc) (ls : Array Slot), decode cX3_endsWithLabel pc = .ok (.ireturn, 1) → some (v, t) = some (r, σ2) → zz (dC, dI) 30 a (wdC cI cZ a t) s.heap H locs → (v = 0 ∨ v = 1) → W p l e rmX3_endsWithLabel s m args below meth c H locs 0 0 (MQ below (Qzi (dC, dI) 30 a (wdC cI cZ a σ2) sz r) args s 0 0 (aN 30 a sz)) (F0 m pc ls [.int v]) := by
    intro v t pc H locs ls hd h hz hv
    cases h
    exact zzret hsz hx hb hr hlocks hv hz hd
  generalize (MQ below (Qzi (dC, dI) 30 a (wdC cI cZ a σ2) sz r) args s 0 0 (aN 30 a sz)) = Q at rt ⊢
  unfold fX3_endsWithLabel at h
  refine lv_iconst (v := (1 : Int32)) hx hb dX3_endsWithLabel_0 (by decide) ?_
  refine lv_iload_n hx hb dX3_endsWithLabel_1 rfl (lv_at hl 2 rfl) ?_
  refine lv_ishl hx hb dX3_endsWithLabel_2 ?_
  refine lv_istore_n (lv' := [(3, .int ((1 : Int32) <<< (x2 &&& 31))), (0, .ref (a 3)), (1, .int x1), (2, .int x2)]) hx hb dX3_endsWithLabel_3 rfl hl (by decide) rfl (fun ls hl => ?_)
  refine lv_iload_n hx hb dX3_endsWithLabel_4 rfl (lv_at hl 2 rfl) ?_
  refine lv_iconst (v := (2 : Int32)) hx hb dX3_endsWithLabel_5 (by decide) ?_
  refine lv_icmp_ne (tgt := 29) hx hb dX3_endsWithLabel_6 (by decide) (fun c1 => ?_) (fun c1 => ?_)
  · replace h := ite_f c1 h
    refine lv_aload_n hx hb dX3_endsWithLabel_29 rfl (lv_at hl 1 rfl) ?_
    refine va_get (v := .int (σ 44 0)) hx hb hts inX3_endsWithLabel_X3 hown hKK.1 hz.1 3 rfl rfl 2 (by decide) (hts _ (List.mem_of_getElem? (i := 3) rfl)) (fun _ h9 => h9) rfl dX3_endsWithLabel_30 ?_
    refine lv_iload_n hx hb dX3_endsWithLabel_33 rfl (lv_at hl 0 rfl) ?_
    refine lv_iand hx hb dX3_endsWithLabel_34 ?_
    refine lv_if_eq (tgt := 40) hx hb dX3_endsWithLabel_35 (by decide) (fun c2 => ?_) (fun c2 => ?_)
    · replace h := ite_t c2 h
      refine lv_aload_n hx hb dX3_endsWithLabel_40 rfl (lv_at hl 1 rfl) ?_
      refine lv_dup hx hb dX3_endsWithLabel_41 rfl ?_
      refine va_get (v := .int (σ 44 0)) hx hb hts inX3_endsWithLabel_X3 hown hKK.1 hz.1 3 rfl rfl 2 (by decide) (hts _ (List.mem_of_getElem? (i := 3) rfl)) (fun _ h9 => h9) rfl dX3_endsWithLabel_42 ?_
      refine lv_iload_n hx hb dX3_endsWithLabel_45 rfl (lv_at hl 0 rfl) ?_
      refine lv_ior hx hb dX3_endsWithLabel_46 ?_
      refine zput (ty := .int) (w' := wdC cI cZ a (si σ 44 ((σ 44 0) ||| ((1 : Int32) <<< (x2 &&& 31))))) hx hb hts inX3_endsWithLabel_X3 tyX3 tyX3_ok nmX3 hown hKK hok wkC hz 3 rfl rfl 2 (by decide) (hts _ (List.mem_of_getElem? (i := 3) rfl)) (fun _ h9 => h9) rfl rfl rfl rfl (Nat.le_of_ble_eq_true rfl) setCi_44 dX3_endsWithLabel_47 (fun H locs hz => ?_)
      refine lv_aload_n hx hb dX3_endsWithLabel_50 rfl (lv_at hl 1 rfl) ?_
      refine va_get (v := .ref (a 4)) hx hb hts inX3_endsWithLabel_X3 hown hKK.1 hz.1 3 rfl rfl 0 (by decide) (hts _ (List.mem_of_getElem? (i := 2) rfl)) (fun _ h9 => h9) rfl dX3_endsWithLabel_51 ?_
      refine lv_iconst (v := (3 : Int32)) hx hb dX3_endsWithLabel_54 (by decide) ?_
      refine lv_iload_n hx hb dX3_endsWithLabel_55 rfl (lv_at hl 3 rfl) ?_
      obtain ⟨r3, s4, e5, h⟩ := bd2_e h
      refine zcallVi (As := [.int (3 : Int32), .int x2]) (rest := []) CF hKK (KX0_add_r (dC := dC) (dI := dI) (cI := cI) (cZ := cZ) (a := a) hok e5) (cwV 2 hts gX3_endsWithLabel_X0_add rfl rfl rfl cdX0_add ⟨Nat.le_of_ble_eq_true rfl, Nat.le_of_ble_eq_true rfl⟩) 4 0 rfl rfl hz rfl hl.1 rfl (Nat.le_of_ble_eq_true rfl) dX3_endsWithLabel_56 ⟨Nat.le_refl _, Nat.le_refl _⟩ (fun H locs hz => ?_)
      obtain ⟨c6, h⟩ := ck_e h
      exact rt r3 s4 59 _ _ _ dX3_endsWithLabel_59 h hz c6
    · replace h := ite_f c2 h
      refine lv_iconst (v := (0 : Int32)) hx hb dX3_endsWithLabel_38 (by decide) ?_
      exact rt (0 : Int32) σ 39 _ _ _ dX3_endsWithLabel_39 h hz (Or.inl rfl)
  · replace h := ite_t c1 h
    refine lv_aload_n hx hb dX3_endsWithLabel_9 rfl (lv_at hl 1 rfl) ?_
    refine lv_dup hx hb dX3_endsWithLabel_10 rfl ?_
    refine va_get (v := .int (σ 45 0)) hx hb hts inX3_endsWithLabel_X3 hown hKK.1 hz.1 3 rfl rfl 3 (by decide) (hts _ (List.mem_of_getElem? (i := 1) rfl)) (fun _ h9 => h9) rfl dX3_endsWithLabel_11 ?_
    refine lv_iload_n hx hb dX3_endsWithLabel_14 rfl (lv_at hl 0 rfl) ?_
    refine lv_ior hx hb dX3_endsWithLabel_15 ?_
    refine zput (ty := .int) (w' := wdC cI cZ a (si σ 45 ((σ 45 0) ||| ((1 : Int32) <<< (x2 &&& 31))))) hx hb hts inX3_endsWithLabel_X3 tyX3 tyX3_ok nmX3 hown hKK hok wkC hz 3 rfl rfl 3 (by decide) (hts _ (List.mem_of_getElem? (i := 1) rfl)) (fun _ h9 => h9) rfl rfl rfl rfl (Nat.le_of_ble_eq_true rfl) setCi_45 dX3_endsWithLabel_16 (fun H locs hz => ?_)
    refine lv_aload_n hx hb dX3_endsWithLabel_19 rfl (lv_at hl 1 rfl) ?_
    refine va_get (v := .ref (a 4)) hx hb hts inX3_endsWithLabel_X3 hown hKK.1 hz.1 3 rfl rfl 0 (by decide) (hts _ (List.mem_of_getElem? (i := 2) rfl)) (fun _ h9 => h9) rfl dX3_endsWithLabel_20 ?_
    refine lv_iconst (v := (2 : Int32)) hx hb dX3_endsWithLabel_23 (by decide) ?_
    refine lv_iload_n hx hb dX3_endsWithLabel_24 rfl (lv_at hl 3 rfl) ?_
    obtain ⟨r7, s8, e9, h⟩ := bd2_e h
    refine zcallVi (As := [.int (2 : Int32), .int x2]) (rest := []) CF hKK (KX0_add_r (dC := dC) (dI := dI) (cI := cI) (cZ := cZ) (a := a) hok e9) (cwV 2 hts gX3_endsWithLabel_X0_add rfl rfl rfl cdX0_add ⟨Nat.le_of_ble_eq_true rfl, Nat.le_of_ble_eq_true rfl⟩) 4 0 rfl rfl hz rfl hl.1 rfl (Nat.le_of_ble_eq_true rfl) dX3_endsWithLabel_25 ⟨Nat.le_refl _, Nat.le_refl _⟩ (fun H locs hz => ?_)
    obtain ⟨c10, h⟩ := ck_e h
    exact rt r7 s8 28 _ _ _ dX3_endsWithLabel_28 h hz c10
def fX3_ends_b145  (σ : St) (y1 : Int32) (y2 : Int32) : Option (Int32 × St) :=
  (if y1 < (65 : Int32) then (some ((0 : Int32), σ)) else ((if (73 : Int32) ≤ y1 then (some ((0 : Int32), σ)) else ((bd2 (fX3_endsWithLabel σ y2 (y1 - (65 : Int32))) fun r24 s25 => (if r24 = 0 then (some ((0 : Int32), s25)) else (some ((1 : Int32), s25))))))))
def fX3_ends (σ : St) (x1 : Int32) : Option (Int32 × St) :=
  (if (σ 43 0) = (0 : Int32) then ((if x1 < (49 : Int32) then (some ((0 : Int32), (si σ 43 (-1 : Int32)))) else ((if (57 : Int32) < x1 then (some ((0 : Int32), (si σ 43 (-1 : Int32)))) else ((bd2 (fX0_add_r (si σ 43 (-1 : Int32)) (0 : Int32) (x1 - (48 : Int32))) fun r4 s5 => (if r4 = 0 then (some ((0 : Int32), s5)) else (some ((1 : Int32), s5))))))))) else (if (σ 43 0) = (1 : Int32) then ((if x1 < (48 : Int32) then (some ((0 : Int32), (si σ 43 (-1 : Int32)))) else ((if (57 : Int32) < x1 then (some ((0 : Int32), (si σ 43 (-1 : Int32)))) else ((bd2 (fX0_add_r (si σ 43 (-1 : Int32)) (1 : Int32) (x1 - (48 : Int32))) fun r11 s12 => (if r11 = 0 then (some ((0 : Int32), s12)) else (some ((1 : Int32), s12))))))))) else (if (σ 43 0) = (4 : Int32) then ((if x1 < (49 : Int32) then (some ((0 : Int32), (si σ 43 (-1 : Int32)))) else ((if (51 : Int32) < x1 then (some ((0 : Int32), (si σ 43 (-1 : Int32)))) else ((bd2 (fX0_add_r (si σ 43 (-1 : Int32)) (4 : Int32) ((1 : Int32) <<< ((x1 - (48 : Int32)) &&& 31))) fun r18 s19 => (if r18 = 0 then (some ((0 : Int32), s19)) else (some ((1 : Int32), s19))))))))) else fX3_ends_b145  (si σ 43 (-1 : Int32)) x1 (σ 43 0))))
abbrev rmX3_ends : Room := { frames := 2, cells := 0, slots := 0, locals := 45 }
set_option maxHeartbeats 4000000 in
set_option maxRecDepth 100000 in
theorem KX3_ends {l : Launch} {dC : Nat → ClassId} {dI : Nat → Nat → Nat} {cI cZ : ClassId} {a : Nat → Nat} {σ : St} {x1 : Int32} {r : Int32} {σ2 : St} (hok : okA 30 a) (h : fX3_ends σ x1 = some (r, σ2)) (sz : Nat) : Met l yX3_ends wsX3_ends rmX3_ends (Pz (dC, dI) cI cZ (wdC cI cZ a σ) sz [.ref (a 3), .int x1]) (Qzi (dC, dI) 30 a (wdC cI cZ a σ2) sz r) 0 0 (aN 30 a sz) := by
  refine Met.ofW (cc := cX3_ends) (maxL := 3) (ret := (some .boolean)) (by decide) rfl ?_
  intro p e s m args below meth c s₁ B hml hv
  obtain ⟨hav, hsz, hP, hKK⟩ := hv
  have hx := B.exec
  have hb := B.bytes
  have hr := B.returns
  have hts := atoms_spec (ws := wsX3_ends) B.pre
  have hown : s.vm.findClass RX3 = some m.cls := findClass_of_methodNamed B.named
  have hlocks := B.notSynchronized
  have CF : CallFix p m c cX3_ends 3 s args wsX3_ends RX3 := ⟨hx, hb, hml, hown, hts⟩
  have hz : zz (dC, dI) 30 a (wdC cI cZ a σ) s.heap s.heap [] := ⟨hP, va_S.rf⟩
  have hl := lv_entry [.ref (a 3), .int x1] (n := 3) (Nat.le_of_ble_eq_true rfl)
  have hen : entryFrame m args 3 = entryFrame m ([.ref (a 3), .int x1] : List Value).toArray 3 := by rw [hav]
  rw [hen, lg_entry_eq]
  generalize (lg_sl [.ref (a 3), .int x1] ++ List.replicate (3 - (lg_sl [.ref (a 3), .int x1]).length) Slot.unset).toArray = ls at hl ⊢
  have hl : lv_has ls 3 [(0, .ref (a 3)), (1, .int x1)] := hl
  have eR : (headSpec wsX3_ends rmX3_ends).room = rmX3_ends := rfl
  rw [eR]
  have rt : ∀ (v : Int32) (t : St) (pc : Nat) (H : Heap) (locs : List Loc) (ls : Array Slot), decode cX3_ends pc = .ok (.ireturn, 1) → some (v, t) = some (r, σ2) → zz (dC, dI) 30 a (wdC cI cZ a t) s.heap H locs → (v = 0 ∨ v = 1) → W p l e rmX3_ends s m args below meth c H locs 0 0 (MQ below (Qzi (dC, dI) 30 a (wdC cI cZ a σ2) sz r) args s 0 0 (aN 30 a sz)) (F0 m pc ls [.int v]) := by
    intro v t pc H locs ls hd h hz hv
    cases h
    exact zzret hsz hx hb hr hlocks hv hz hd
  generalize (MQ below (Qzi (dC, dI) 30 a (wdC cI cZ a σ2) sz r) args s 0 0 (aN 30 a sz)) = Q at rt ⊢
  have b145 : ∀  (σ : St) (y1 : Int32) (y2 : Int32) (H : Heap) (locs : List Loc) (ls : Array Slot), fX3_ends_b145  σ y1 y2 = some (r, σ2) → zz (dC, dI) 30 a (wdC cI cZ a σ) s.heap H locs → lv_has ls 3 [(0, .ref (a 3)), (1, .int y1), (2, .int y2)] → W p l e rmX3_ends s m args below meth c H locs 0 0 Q (F0 m 145 ls []) := by
    intro  σ y1 y2 H locs ls h hz hl
    unfold fX3_ends_b145 at h
    refine lv_iload_n hx hb dX3_ends_145 rfl (lv_at hl 1 rfl) ?_
    refine lv_bipush (v := (65 : Int32)) hx hb dX3_ends_146 (by decide) ?_
    refine lv_icmp_lt (tgt := 173) hx hb dX3_ends_148 (by decide) (fun c22 => ?_) (fun c22 => ?_)
    · replace h := ite_t c22 h
      refine lv_iconst (v := (0 : Int32)) hx hb dX3_ends_173 (by decide) ?_
      exact rt (0 : Int32) σ 174 _ _ _ dX3_ends_174 h hz (Or.inl rfl)
    · replace h := ite_f c22 h
      refine lv_iload_n hx hb dX3_ends_151 rfl (lv_at hl 1 rfl) ?_
      refine lv_bipush (v := (73 : Int32)) hx hb dX3_ends_152 (by decide) ?_
      refine lv_icmp_ge (tgt := 173) hx hb dX3_ends_154 (by decide) (fun c23 => ?_) (fun c23 => ?_)
      · replace h := ite_t c23 h
        refine lv_iconst (v := (0 : Int32)) hx hb dX3_ends_173 (by decide) ?_
        exact rt (0 : Int32) σ 174 _ _ _ dX3_ends_174 h hz (Or.inl rfl)
      · replace h := ite_f c23 h
        refine lv_aload_n hx hb dX3_ends_157 rfl (lv_at hl 0 rfl) ?_
        refine lv_iload_n hx hb dX3_ends_158 rfl (lv_at hl 2 rfl) ?_
        refine lv_iload_n hx hb dX3_ends_159 rfl (lv_at hl 1 rfl) ?_
        refine lv_bipush (v := (65 : Int32)) hx hb dX3_ends_160 (by decide) ?_
        refine lv_isub hx hb dX3_ends_162 ?_
        obtain ⟨r24, s25, e26, h⟩ := bd2_e h
        refine zcallVi (As := [.int y2, .int (y1 - (65 : Int32))]) (rest := []) CF hKK (KX3_endsWithLabel (dC := dC) (dI := dI) (cI := cI) (cZ := cZ) (a := a) hok e26) (cwV 2 hts gX3_ends_X3_endsWithLabel rfl rfl rfl cdX3_endsWithLabel ⟨Nat.le_of_ble_eq_true rfl, Nat.le_of_ble_eq_true rfl⟩) 3 3 rfl rfl hz rfl hl.1 rfl (Nat.le_of_ble_eq_true rfl) dX3_ends_163 ⟨Nat.le_refl _, Nat.le_refl _⟩ (fun H locs hz => ?_)
        refine lv_if_eq (tgt := 173) hx hb dX3_ends_166 (by decide) (fun c27 => ?_) (fun c27 => ?_)
        · replace h := ite_t c27 h
          refine lv_iconst (v := (0 : Int32)) hx hb dX3_ends_173 (by decide) ?_
          exact rt (0 : Int32) s25 174 _ _ _ dX3_ends_174 h hz (Or.inl rfl)
        · replace h := ite_f c27 h
          refine lv_iconst (v := (1 : Int32)) hx hb dX3_ends_169 (by decide) ?_
          refine lv_goto (tgt := 174) hx hb dX3_ends_170 (by decide) ?_
          exact rt (1 : Int32) s25 174 _ _ _ dX3_ends_174 h hz (Or.inr rfl)
  unfold fX3_ends at h
  refine lv_aload_n hx hb dX3_ends_0 rfl (lv_at hl 0 rfl) ?_
  refine va_get (v := .int (σ 43 0)) hx hb hts inX3_ends_X3 hown hKK.1 hz.1 3 rfl rfl 1 (by decide) (hts _ (List.mem_of_getElem? (i := 1) rfl)) (fun _ h9 => h9) rfl dX3_ends_1 ?_
  refine lv_istore_n (lv' := [(2, .int (σ 43 0)), (0, .ref (a 3)), (1, .int x1)]) hx hb dX3_ends_4 rfl hl (by decide) rfl (fun ls hl => ?_)
  refine lv_aload_n hx hb dX3_ends_5 rfl (lv_at hl 1 rfl) ?_
  refine lv_iconst (v := (-1 : Int32)) hx hb dX3_ends_6 (by decide) ?_
  refine zput (ty := .int) (w' := wdC cI cZ a (si σ 43 (-1 : Int32))) hx hb hts inX3_ends_X3 tyX3 tyX3_ok nmX3 hown hKK hok wkC hz 3 rfl rfl 1 (by decide) (hts _ (List.mem_of_getElem? (i := 1) rfl)) (fun _ h9 => h9) rfl rfl rfl rfl (Nat.le_of_ble_eq_true rfl) setCi_43 dX3_ends_7 (fun H locs hz => ?_)
  refine lv_iload_n hx hb dX3_ends_10 rfl (lv_at hl 0 rfl) ?_
  by_cases c1 : (σ 43 0) = (0 : Int32)
  · replace h := ite_t c1 h
    refine lv_tableIn (tgt := 44) (off := 33) hx hb dX3_ends_11 (by rw [c1]; decide) (by rw [c1]; decide) (by rw [c1]; rfl) (by decide) ?_
    refine lv_iload_n hx hb dX3_ends_44 rfl (lv_at hl 2 rfl) ?_
    refine lv_bipush (v := (49 : Int32)) hx hb dX3_ends_45 (by decide) ?_
    refine lv_icmp_lt (tgt := 75) hx hb dX3_ends_47 (by decide) (fun c2 => ?_) (fun c2 => ?_)
    · replace h := ite_t c2 h
      refine lv_iconst (v := (0 : Int32)) hx hb dX3_ends_75 (by decide) ?_
      exact rt (0 : Int32) (si σ 43 (-1 : Int32)) 76 _ _ _ dX3_ends_76 h hz (Or.inl rfl)
    · replace h := ite_f c2 h
      refine lv_iload_n hx hb dX3_ends_50 rfl (lv_at hl 2 rfl) ?_
      refine lv_bipush (v := (57 : Int32)) hx hb dX3_ends_51 (by decide) ?_
      refine lv_icmp_gt (tgt := 75) hx hb dX3_ends_53 (by decide) (fun c3 => ?_) (fun c3 => ?_)
      · replace h := ite_t c3 h
        refine lv_iconst (v := (0 : Int32)) hx hb dX3_ends_75 (by decide) ?_
        exact rt (0 : Int32) (si σ 43 (-1 : Int32)) 76 _ _ _ dX3_ends_76 h hz (Or.inl rfl)
      · replace h := ite_f c3 h
        refine lv_aload_n hx hb dX3_ends_56 rfl (lv_at hl 1 rfl) ?_
        refine va_get (v := .ref (a 4)) hx hb hts inX3_ends_X3 hown hKK.1 hz.1 3 rfl rfl 0 (by decide) (hts _ (List.mem_of_getElem? (i := 2) rfl)) (fun _ h9 => h9) rfl dX3_ends_57 ?_
        refine lv_iconst (v := (0 : Int32)) hx hb dX3_ends_60 (by decide) ?_
        refine lv_iload_n hx hb dX3_ends_61 rfl (lv_at hl 2 rfl) ?_
        refine lv_bipush (v := (48 : Int32)) hx hb dX3_ends_62 (by decide) ?_
        refine lv_isub hx hb dX3_ends_64 ?_
        obtain ⟨r4, s5, e6, h⟩ := bd2_e h
        refine zcallVi (As := [.int (0 : Int32), .int (x1 - (48 : Int32))]) (rest := []) CF hKK (KX0_add_r (dC := dC) (dI := dI) (cI := cI) (cZ := cZ) (a := a) hok e6) (cwV 2 hts gX3_ends_X0_add rfl rfl rfl cdX0_add ⟨Nat.le_of_ble_eq_true rfl, Nat.le_of_ble_eq_true rfl⟩) 4 0 rfl rfl hz rfl hl.1 rfl (Nat.le_of_ble_eq_true rfl) dX3_ends_65 ⟨Nat.le_refl _, Nat.le_refl _⟩ (fun H locs hz => ?_)
        refine lv_if_eq (tgt := 75) hx hb dX3_ends_68 (by decide) (fun c7 => ?_) (fun c7 => ?_)
        · replace h := ite_t c7 h
          refine lv_iconst (v := (0 : Int32)) hx hb dX3_ends_75 (by decide) ?_
          exact rt (0 : Int32) s5 76 _ _ _ dX3_ends_76 h hz (Or.inl rfl)
        · replace h := ite_f c7 h
          refine lv_iconst (v := (1 : Int32)) hx hb dX3_ends_71 (by decide) ?_
          refine lv_goto (tgt := 76) hx hb dX3_ends_72 (by decide) ?_
          exact rt (1 : Int32) s5 76 _ _ _ dX3_ends_76 h hz (Or.inr rfl)
  replace h := ite_f c1 h
  by_cases c8 : (σ 43 0) = (1 : Int32)
  · replace h := ite_t c8 h
    refine lv_tableIn (tgt := 77) (off := 66) hx hb dX3_ends_11 (by rw [c8]; decide) (by rw [c8]; decide) (by rw [c8]; rfl) (by decide) ?_
    refine lv_iload_n hx hb dX3_ends_77 rfl (lv_at hl 2 rfl) ?_
    refine lv_bipush (v := (48 : Int32)) hx hb dX3_ends_78 (by decide) ?_
    refine lv_icmp_lt (tgt := 108) hx hb dX3_ends_80 (by decide) (fun c9 => ?_) (fun c9 => ?_)
    · replace h := ite_t c9 h
      refine lv_iconst (v := (0 : Int32)) hx hb dX3_ends_108 (by decide) ?_
      exact rt (0 : Int32) (si σ 43 (-1 : Int32)) 109 _ _ _ dX3_ends_109 h hz (Or.inl rfl)
    · replace h := ite_f c9 h
      refine lv_iload_n hx hb dX3_ends_83 rfl (lv_at hl 2 rfl) ?_
      refine lv_bipush (v := (57 : Int32)) hx hb dX3_ends_84 (by decide) ?_
      refine lv_icmp_gt (tgt := 108) hx hb dX3_ends_86 (by decide) (fun c10 => ?_) (fun c10 => ?_)
      · replace h := ite_t c10 h
        refine lv_iconst (v := (0 : Int32)) hx hb dX3_ends_108 (by decide) ?_
        exact rt (0 : Int32) (si σ 43 (-1 : Int32)) 109 _ _ _ dX3_ends_109 h hz (Or.inl rfl)
      · replace h := ite_f c10 h
        refine lv_aload_n hx hb dX3_ends_89 rfl (lv_at hl 1 rfl) ?_
        refine va_get (v := .ref (a 4)) hx hb hts inX3_ends_X3 hown hKK.1 hz.1 3 rfl rfl 0 (by decide) (hts _ (List.mem_of_getElem? (i := 2) rfl)) (fun _ h9 => h9) rfl dX3_ends_90 ?_
        refine lv_iconst (v := (1 : Int32)) hx hb dX3_ends_93 (by decide) ?_
        refine lv_iload_n hx hb dX3_ends_94 rfl (lv_at hl 2 rfl) ?_
        refine lv_bipush (v := (48 : Int32)) hx hb dX3_ends_95 (by decide) ?_
        refine lv_isub hx hb dX3_ends_97 ?_
        obtain ⟨r11, s12, e13, h⟩ := bd2_e h
        refine zcallVi (As := [.int (1 : Int32), .int (x1 - (48 : Int32))]) (rest := []) CF hKK (KX0_add_r (dC := dC) (dI := dI) (cI := cI) (cZ := cZ) (a := a) hok e13) (cwV 2 hts gX3_ends_X0_add rfl rfl rfl cdX0_add ⟨Nat.le_of_ble_eq_true rfl, Nat.le_of_ble_eq_true rfl⟩) 4 0 rfl rfl hz rfl hl.1 rfl (Nat.le_of_ble_eq_true rfl) dX3_ends_98 ⟨Nat.le_refl _, Nat.le_refl _⟩ (fun H locs hz => ?_)
        refine lv_if_eq (tgt := 108) hx hb dX3_ends_101 (by decide) (fun c14 => ?_) (fun c14 => ?_)
        · replace h := ite_t c14 h
          refine lv_iconst (v := (0 : Int32)) hx hb dX3_ends_108 (by decide) ?_
          exact rt (0 : Int32) s12 109 _ _ _ dX3_ends_109 h hz (Or.inl rfl)
        · replace h := ite_f c14 h
          refine lv_iconst (v := (1 : Int32)) hx hb dX3_ends_104 (by decide) ?_
          refine lv_goto (tgt := 109) hx hb dX3_ends_105 (by decide) ?_
          exact rt (1 : Int32) s12 109 _ _ _ dX3_ends_109 h hz (Or.inr rfl)
  replace h := ite_f c8 h
  by_cases c15 : (σ 43 0) = (4 : Int32)
  · replace h := ite_t c15 h
    refine lv_tableIn (tgt := 110) (off := 99) hx hb dX3_ends_11 (by rw [c15]; decide) (by rw [c15]; decide) (by rw [c15]; rfl) (by decide) ?_
    refine lv_iload_n hx hb dX3_ends_110 rfl (lv_at hl 2 rfl) ?_
    refine lv_bipush (v := (49 : Int32)) hx hb dX3_ends_111 (by decide) ?_
    refine lv_icmp_lt (tgt := 143) hx hb dX3_ends_113 (by decide) (fun c16 => ?_) (fun c16 => ?_)
    · replace h := ite_t c16 h
      refine lv_iconst (v := (0 : Int32)) hx hb dX3_ends_143 (by decide) ?_
      exact rt (0 : Int32) (si σ 43 (-1 : Int32)) 144 _ _ _ dX3_ends_144 h hz (Or.inl rfl)
    · replace h := ite_f c16 h
      refine lv_iload_n hx hb dX3_ends_116 rfl (lv_at hl 2 rfl) ?_
      refine lv_bipush (v := (51 : Int32)) hx hb dX3_ends_117 (by decide) ?_
      refine lv_icmp_gt (tgt := 143) hx hb dX3_ends_119 (by decide) (fun c17 => ?_) (fun c17 => ?_)
      · replace h := ite_t c17 h
        refine lv_iconst (v := (0 : Int32)) hx hb dX3_ends_143 (by decide) ?_
        exact rt (0 : Int32) (si σ 43 (-1 : Int32)) 144 _ _ _ dX3_ends_144 h hz (Or.inl rfl)
      · replace h := ite_f c17 h
        refine lv_aload_n hx hb dX3_ends_122 rfl (lv_at hl 1 rfl) ?_
        refine va_get (v := .ref (a 4)) hx hb hts inX3_ends_X3 hown hKK.1 hz.1 3 rfl rfl 0 (by decide) (hts _ (List.mem_of_getElem? (i := 2) rfl)) (fun _ h9 => h9) rfl dX3_ends_123 ?_
        refine lv_iconst (v := (4 : Int32)) hx hb dX3_ends_126 (by decide) ?_
        refine lv_iconst (v := (1 : Int32)) hx hb dX3_ends_127 (by decide) ?_
        refine lv_iload_n hx hb dX3_ends_128 rfl (lv_at hl 2 rfl) ?_
        refine lv_bipush (v := (48 : Int32)) hx hb dX3_ends_129 (by decide) ?_
        refine lv_isub hx hb dX3_ends_131 ?_
        refine lv_ishl hx hb dX3_ends_132 ?_
        obtain ⟨r18, s19, e20, h⟩ := bd2_e h
        refine zcallVi (As := [.int (4 : Int32), .int ((1 : Int32) <<< ((x1 - (48 : Int32)) &&& 31))]) (rest := []) CF hKK (KX0_add_r (dC := dC) (dI := dI) (cI := cI) (cZ := cZ) (a := a) hok e20) (cwV 2 hts gX3_ends_X0_add rfl rfl rfl cdX0_add ⟨Nat.le_of_ble_eq_true rfl, Nat.le_of_ble_eq_true rfl⟩) 4 0 rfl rfl hz rfl hl.1 rfl (Nat.le_of_ble_eq_true rfl) dX3_ends_133 ⟨Nat.le_refl _, Nat.le_refl _⟩ (fun H locs hz => ?_)
        refine lv_if_eq (tgt := 143) hx hb dX3_ends_136 (by decide) (fun c21 => ?_) (fun c21 => ?_)
        · replace h := ite_t c21 h
          refine lv_iconst (v := (0 : Int32)) hx hb dX3_ends_143 (by decide) ?_
          exact rt (0 : Int32) s19 144 _ _ _ dX3_ends_144 h hz (Or.inl rfl)
        · replace h := ite_f c21 h
          refine lv_iconst (v := (1 : Int32)) hx hb dX3_ends_139 (by decide) ?_
          refine lv_goto (tgt := 144) hx hb dX3_ends_140 (by decide) ?_
          exact rt (1 : Int32) s19 144 _ _ _ dX3_ends_144 h hz (Or.inr rfl)
  replace h := ite_f c15 h
  by_cases c28 : (σ 43 0) = (2 : Int32)
  · refine lv_tableIn (tgt := 145) (off := 134) hx hb dX3_ends_11 (by rw [c28]; decide) (by rw [c28]; decide) (by rw [c28]; rfl) (by decide) ?_
    exact b145  (si σ 43 (-1 : Int32)) x1 (σ 43 0) _ _ _ h hz (lv_sub hl [1, 2, 0] rfl)
  by_cases c29 : (σ 43 0) = (3 : Int32)
  · refine lv_tableIn (tgt := 145) (off := 134) hx hb dX3_ends_11 (by rw [c29]; decide) (by rw [c29]; decide) (by rw [c29]; rfl) (by decide) ?_
    exact b145  (si σ 43 (-1 : Int32)) x1 (σ 43 0) _ _ _ h hz (lv_sub hl [1, 2, 0] rfl)
  refine lv_tableOut (tgt := 145) hx hb dX3_ends_11 (by have := lv_neT c1 (a := 0) rfl; have := lv_neT c8 (a := 1) rfl; have := lv_neT c15 (a := 4) rfl; have := lv_neT c28 (a := 2) rfl; have := lv_neT c29 (a := 3) rfl; omega) (by decide) ?_
  exact b145  (si σ 43 (-1 : Int32)) x1 (σ 43 0) _ _ _ h hz (lv_sub hl [1, 2, 0] rfl)
def fX3_read_b59 (k24 : St → Int32 → Option (Int32 × St)) (σ : St) (y2 : Int32) (t0 : Int32) : Option (Int32 × St) :=
  (if t0 = 0 then (some (y2, σ)) else (k24 σ (y2 + (1 : Int32))))
def fX3_read_s24 (k24 : St → Int32 → Option (Int32 × St)) (σ : St) (y2 : Int32) : Option (Int32 × St) :=
  (bd1 (fX1_length σ ) fun r4 => (if r4 ≤ y2 then ((bd1 (fX1_length σ ) fun r8 => some (r8, σ))) else ((bd1 (fX1_letterAt σ y2) fun r11 => (if (σ 43 0) = (-1 : Int32) then ((bd2 (fX3_begins σ r11) fun r19 s20 => fX3_read_b59 k24 s20 y2 r19)) else ((bd2 (fX3_ends σ r11) fun r15 s16 => fX3_read_b59 k24 s16 y2 r15)))))))
def fX3_read_l24  : Nat → St → Int32 → Option (Int32 × St) :=
  itr (fX3_read_s24 ) (fun _ _ => none)
def fX3_read (σ : St)  : Option (Int32 × St) :=
  (bd1 (fX0_clear_r σ ) fun s2 => fX3_read_l24  FU (si (si (si s2 43 (-1 : Int32)) 44 (0 : Int32)) 45 (0 : Int32)) (0 : Int32))
abbrev rmX3_read : Room := { frames := 3, cells := 0, slots := 0, locals := 67 }
set_option maxHeartbeats 4000000 in
set_option maxRecDepth 100000 in
theorem KX3_read {l : Launch} {dC : Nat → ClassId} {dI : Nat → Nat → Nat} {cI cZ : ClassId} {a : Nat → Nat} {σ : St}  {r : Int32} {σ2 : St} (hok : okA 30 a) (h : fX3_read σ  = some (r, σ2)) (sz : Nat) : Met l yX3_read wsX3_read rmX3_read (Pz (dC, dI) cI cZ (wdC cI cZ a σ) sz [.ref (a 3), .ref (a 1)]) (Qzi (dC, dI) 30 a (wdC cI cZ a σ2) sz r) 0 0 (aN 30 a sz) := by
  refine Met.ofW (cc := cX3_read) (maxL := 5) (ret := (some .int)) (by decide) rfl ?_
  intro p e s m args below meth c s₁ B hml hv
  obtain ⟨hav, hsz, hP, hKK⟩ := hv
  have hx := B.exec
  have hb := B.bytes
  have hr := B.returns
  have hts := atoms_spec (ws := wsX3_read) B.pre
  have hown : s.vm.findClass RX3 = some m.cls := findClass_of_methodNamed B.named
  have hlocks := B.notSynchronized
  have CF : CallFix p m c cX3_read 5 s args wsX3_read RX3 := ⟨hx, hb, hml, hown, hts⟩
  have hz : zz (dC, dI) 30 a (wdC cI cZ a σ) s.heap s.heap [] := ⟨hP, va_S.rf⟩
  have hl := lv_entry [.ref (a 3), .ref (a 1)] (n := 5) (Nat.le_of_ble_eq_true rfl)
  have hen : entryFrame m args 5 = entryFrame m ([.ref (a 3), .ref (a 1)] : List Value).toArray 5 := by rw [hav]
  rw [hen, lg_entry_eq]
  generalize (lg_sl [.ref (a 3), .ref (a 1)] ++ List.replicate (5 - (lg_sl [.ref (a 3), .ref (a 1)]).length) Slot.unset).toArray = ls at hl ⊢
  have hl : lv_has ls 5 [(0, .ref (a 3)), (1, .ref (a 1))] := hl
  have eR : (headSpec wsX3_read rmX3_read).room = rmX3_read := rfl
  rw [eR]
  have rt : ∀ (v : Int32) (t : St) (pc : Nat) (H : Heap) (locs : List Loc) (ls : Array Slot), decode cX3_read pc = .ok (.ireturn, 1) → some (v, t) = some (r, σ2) → zz (dC, dI) 30 a (wdC cI cZ a t) s.heap H locs → W p l e rmX3_read s m args below meth c H locs 0 0 (MQ below (Qzi (dC, dI) 30 a (wdC cI cZ a σ2) sz r) args s 0 0 (aN 30 a sz)) (F0 m pc ls [.int v]) := by
    intro v t pc H locs ls hd h hz
    cases h
    exact ziret hsz hx hb hr hlocks hz hd
  generalize (MQ below (Qzi (dC, dI) 30 a (wdC cI cZ a σ2) sz r) args s 0 0 (aN 30 a sz)) = Q at rt ⊢
  have b59 : ∀ (k24 : St → Int32 → Option (Int32 × St)) (hk24 : (∀ (σ : St) (y2 : Int32) (H : Heap) (locs : List Loc) (ls : Array Slot), k24 σ y2 = some (r, σ2) → zz (dC, dI) 30 a (wdC cI cZ a σ) s.heap H locs → lv_has ls 5 [(0, .ref (a 3)), (1, .ref (a 1)), (2, .int y2)] → W p l e rmX3_read s m args below meth c H locs 0 0 Q (F0 m 24 ls []))) (σ : St) (y2 : Int32) (t0 : Int32) (H : Heap) (locs : List Loc) (ls : Array Slot), fX3_read_b59 k24 σ y2 t0 = some (r, σ2) → zz (dC, dI) 30 a (wdC cI cZ a σ) s.heap H locs → lv_has ls 5 [(0, .ref (a 3)), (1, .ref (a 1)), (2, .int y2)] → W p l e rmX3_read s m args below meth c H locs 0 0 Q (F0 m 59 ls [.int t0]) := by
    intro k24 hk24 σ y2 t0 H locs ls h hz hl
    unfold fX3_read_b59 at h
    refine lv_istore (lv' := [(4, .int t0), (0, .ref (a 3)), (1, .ref (a 1)), (2, .int y2)]) hx hb dX3_read_59 hl (by decide) rfl (fun ls hl => ?_)
    refine lv_iload hx hb dX3_read_61 (lv_at hl 0 rfl) ?_
    refine lv_if_ne (tgt := 68) hx hb dX3_read_63 (by decide) (fun c18 => ?_) (fun c18 => ?_)
    · replace h := ite_f c18 h
      refine lv_iinc (v := (y2 + (1 : Int32))) (lv' := [(2, .int (y2 + (1 : Int32))), (4, .int t0), (0, .ref (a 3)), (1, .ref (a 1))]) hx hb dX3_read_68 hl (k := 3) rfl rfl (by decide) rfl (fun ls hl => ?_)
      refine lv_goto (tgt := 24) hx hb dX3_read_71 (by decide) ?_
      exact hk24 σ (y2 + (1 : Int32)) _ _ _ h hz (lv_sub hl [2, 3, 0] rfl)
    · replace h := ite_t c18 h
      refine lv_iload_n hx hb dX3_read_66 rfl (lv_at hl 3 rfl) ?_
      exact rt y2 σ 67 _ _ _ dX3_read_67 h hz
  have s24 : ∀ (k24 : St → Int32 → Option (Int32 × St)) (hk24 : (∀ (σ : St) (y2 : Int32) (H : Heap) (locs : List Loc) (ls : Array Slot), k24 σ y2 = some (r, σ2) → zz (dC, dI) 30 a (wdC cI cZ a σ) s.heap H locs → lv_has ls 5 [(0, .ref (a 3)), (1, .ref (a 1)), (2, .int y2)] → W p l e rmX3_read s m args below meth c H locs 0 0 Q (F0 m 24 ls []))) (σ : St) (y2 : Int32) (H : Heap) (locs : List Loc) (ls : Array Slot), fX3_read_s24 k24 σ y2 = some (r, σ2) → zz (dC, dI) 30 a (wdC cI cZ a σ) s.heap H locs → lv_has ls 5 [(0, .ref (a 3)), (1, .ref (a 1)), (2, .int y2)] → W p l e rmX3_read s m args below meth c H locs 0 0 Q (F0 m 24 ls []) := by
    intro k24 hk24 σ y2 H locs ls h hz hl
    unfold fX3_read_s24 at h
    refine lv_iload_n hx hb dX3_read_24 rfl (lv_at hl 2 rfl) ?_
    refine lv_aload_n hx hb dX3_read_25 rfl (lv_at hl 1 rfl) ?_
    obtain ⟨r4, e6, h⟩ := bd1_e h
    refine zcallVi (As := []) (rest := [.int y2]) CF hKK (KX1_length (dC := dC) (dI := dI) (cI := cI) (cZ := cZ) (a := a) hok e6) (cwV 0 hts gX3_read_X1_length rfl rfl rfl cdX1_length ⟨Nat.le_of_ble_eq_true rfl, Nat.le_of_ble_eq_true rfl⟩) 1 1 rfl rfl hz rfl hl.1 rfl (Nat.le_of_ble_eq_true rfl) dX3_read_26 ⟨Nat.le_refl _, Nat.le_refl _⟩ (fun H locs hz => ?_)
    refine lv_icmp_ge (tgt := 74) hx hb dX3_read_29 (by decide) (fun c7 => ?_) (fun c7 => ?_)
    · replace h := ite_t c7 h
      refine lv_aload_n hx hb dX3_read_74 rfl (lv_at hl 1 rfl) ?_
      obtain ⟨r8, e10, h⟩ := bd1_e h
      refine zcallVi (As := []) (rest := []) CF hKK (KX1_length (dC := dC) (dI := dI) (cI := cI) (cZ := cZ) (a := a) hok e10) (cwV 0 hts gX3_read_X1_length rfl rfl rfl cdX1_length ⟨Nat.le_of_ble_eq_true rfl, Nat.le_of_ble_eq_true rfl⟩) 1 1 rfl rfl hz rfl hl.1 rfl (Nat.le_of_ble_eq_true rfl) dX3_read_75 ⟨Nat.le_refl _, Nat.le_refl _⟩ (fun H locs hz => ?_)
      exact rt r8 σ 78 _ _ _ dX3_read_78 h hz
    · replace h := ite_f c7 h
      refine lv_aload_n hx hb dX3_read_32 rfl (lv_at hl 1 rfl) ?_
      refine lv_iload_n hx hb dX3_read_33 rfl (lv_at hl 2 rfl) ?_
      obtain ⟨r11, e13, h⟩ := bd1_e h
      refine zcallVi (As := [.int y2]) (rest := []) CF hKK (KX1_letterAt (dC := dC) (dI := dI) (cI := cI) (cZ := cZ) (a := a) hok e13) (cwV 1 hts gX3_read_X1_letterAt rfl rfl rfl cdX1_letterAt ⟨Nat.le_of_ble_eq_true rfl, Nat.le_of_ble_eq_true rfl⟩) 1 1 rfl rfl hz rfl hl.1 rfl (Nat.le_of_ble_eq_true rfl) dX3_read_34 ⟨Nat.le_refl _, Nat.le_refl _⟩ (fun H locs hz => ?_)
      refine lv_istore_n (lv' := [(3, .int r11), (0, .ref (a 3)), (1, .ref (a 1)), (2, .int y2)]) hx hb dX3_read_37 rfl hl (by decide) rfl (fun ls hl => ?_)
      refine lv_aload_n hx hb dX3_read_38 rfl (lv_at hl 1 rfl) ?_
      refine va_get (v := .int (σ 43 0)) hx hb hts inX3_read_X3 hown hKK.1 hz.1 3 rfl rfl 1 (by decide) (hts _ (List.mem_of_getElem? (i := 2) rfl)) (fun _ h9 => h9) rfl dX3_read_39 ?_
      refine lv_iconst (v := (-1 : Int32)) hx hb dX3_read_42 (by decide) ?_
      refine lv_icmp_ne (tgt := 54) hx hb dX3_read_43 (by decide) (fun c14 => ?_) (fun c14 => ?_)
      · replace h := ite_f c14 h
        refine lv_aload_n hx hb dX3_read_54 rfl (lv_at hl 1 rfl) ?_
        refine lv_iload_n hx hb dX3_read_55 rfl (lv_at hl 0 rfl) ?_
        obtain ⟨r15, s16, e17, h⟩ := bd2_e h
        refine zcallVi (As := [.int r11]) (rest := []) CF hKK (KX3_ends (dC := dC) (dI := dI) (cI := cI) (cZ := cZ) (a := a) hok e17) (cwV 1 hts gX3_read_X3_ends rfl rfl rfl cdX3_ends ⟨Nat.le_of_ble_eq_true rfl, Nat.le_of_ble_eq_true rfl⟩) 3 3 rfl rfl hz rfl hl.1 rfl (Nat.le_of_ble_eq_true rfl) dX3_read_56 ⟨Nat.le_refl _, Nat.le_refl _⟩ (fun H locs hz => ?_)
        exact b59 k24 hk24 s16 y2 r15 _ _ _ h hz (lv_sub hl [1, 2, 3] rfl)
      · replace h := ite_t c14 h
        refine lv_aload_n hx hb dX3_read_46 rfl (lv_at hl 1 rfl) ?_
        refine lv_iload_n hx hb dX3_read_47 rfl (lv_at hl 0 rfl) ?_
        obtain ⟨r19, s20, e21, h⟩ := bd2_e h
        refine zcallVi (As := [.int r11]) (rest := []) CF hKK (KX3_begins (dC := dC) (dI := dI) (cI := cI) (cZ := cZ) (a := a) hok e21) (cwV 1 hts gX3_read_X3_begins rfl rfl rfl cdX3_begins ⟨Nat.le_of_ble_eq_true rfl, Nat.le_of_ble_eq_true rfl⟩) 3 3 rfl rfl hz rfl hl.1 rfl (Nat.le_of_ble_eq_true rfl) dX3_read_48 ⟨Nat.le_refl _, Nat.le_refl _⟩ (fun H locs hz => ?_)
        refine lv_goto (tgt := 59) hx hb dX3_read_51 (by decide) ?_
        exact b59 k24 hk24 s20 y2 r19 _ _ _ h hz (lv_sub hl [1, 2, 3] rfl)
  have l24 : ∀  (n : Nat), ∀ (σ : St) (y2 : Int32) (H : Heap) (locs : List Loc) (ls : Array Slot), fX3_read_l24  n σ y2 = some (r, σ2) → zz (dC, dI) 30 a (wdC cI cZ a σ) s.heap H locs → lv_has ls 5 [(0, .ref (a 3)), (1, .ref (a 1)), (2, .int y2)] → W p l e rmX3_read s m args below meth c H locs 0 0 Q (F0 m 24 ls []) := by
    intro  n
    induction n with
    | zero => intro σ y2 H locs ls h; exact nomatch h
    | succ n ih => exact s24  (fX3_read_l24  n) ih
  unfold fX3_read at h
  refine lv_aload_n hx hb dX3_read_0 rfl (lv_at hl 0 rfl) ?_
  refine va_get (v := .ref (a 4)) hx hb hts inX3_read_X3 hown hKK.1 hz.1 3 rfl rfl 0 (by decide) (hts _ (List.mem_of_getElem? (i := 1) rfl)) (fun _ h9 => h9) rfl dX3_read_1 ?_
  obtain ⟨s2, e3, h⟩ := bd1_e h
  refine zcallVv (As := []) (rest := []) CF hKK (KX0_clear_r (dC := dC) (dI := dI) (cI := cI) (cZ := cZ) (a := a) hok e3) (cwV 0 hts gX3_read_X0_clear rfl rfl rfl cdX0_clear ⟨Nat.le_of_ble_eq_true rfl, Nat.le_of_ble_eq_true rfl⟩) 4 0 rfl rfl hz rfl hl.1 rfl (Nat.le_of_ble_eq_true rfl) dX3_read_4 ⟨Nat.le_refl _, Nat.le_refl _⟩ (fun H locs hz => ?_)
  refine lv_aload_n hx hb dX3_read_7 rfl (lv_at hl 0 rfl) ?_
  refine lv_iconst (v := (-1 : Int32)) hx hb dX3_read_8 (by decide) ?_
  refine zput (ty := .int) (w' := wdC cI cZ a (si s2 43 (-1 : Int32))) hx hb hts inX3_read_X3 tyX3 tyX3_ok nmX3 hown hKK hok wkC hz 3 rfl rfl 1 (by decide) (hts _ (List.mem_of_getElem? (i := 2) rfl)) (fun _ h9 => h9) rfl rfl rfl rfl (Nat.le_of_ble_eq_true rfl) setCi_43 dX3_read_9 (fun H locs hz => ?_)
  refine lv_aload_n hx hb dX3_read_12 rfl (lv_at hl 0 rfl) ?_
  refine lv_iconst (v := (0 : Int32)) hx hb dX3_read_13 (by decide) ?_
  refine zput (ty := .int) (w' := wdC cI cZ a (si (si s2 43 (-1 : Int32)) 44 (0 : Int32))) hx hb hts inX3_read_X3 tyX3 tyX3_ok nmX3 hown hKK hok wkC hz 3 rfl rfl 2 (by decide) (hts _ (List.mem_of_getElem? (i := 3) rfl)) (fun _ h9 => h9) rfl rfl rfl rfl (Nat.le_of_ble_eq_true rfl) setCi_44 dX3_read_14 (fun H locs hz => ?_)
  refine lv_aload_n hx hb dX3_read_17 rfl (lv_at hl 0 rfl) ?_
  refine lv_iconst (v := (0 : Int32)) hx hb dX3_read_18 (by decide) ?_
  refine zput (ty := .int) (w' := wdC cI cZ a (si (si (si s2 43 (-1 : Int32)) 44 (0 : Int32)) 45 (0 : Int32))) hx hb hts inX3_read_X3 tyX3 tyX3_ok nmX3 hown hKK hok wkC hz 3 rfl rfl 3 (by decide) (hts _ (List.mem_of_getElem? (i := 4) rfl)) (fun _ h9 => h9) rfl rfl rfl rfl (Nat.le_of_ble_eq_true rfl) setCi_45 dX3_read_19 (fun H locs hz => ?_)
  refine lv_iconst (v := (0 : Int32)) hx hb dX3_read_22 (by decide) ?_
  refine lv_istore_n (lv' := [(2, .int (0 : Int32)), (0, .ref (a 3)), (1, .ref (a 1))]) hx hb dX3_read_23 rfl hl (by decide) rfl (fun ls hl => ?_)
  exact l24  FU (si (si (si s2 43 (-1 : Int32)) 44 (0 : Int32)) 45 (0 : Int32)) (0 : Int32) _ _ _ h hz (lv_sub hl [1, 2, 0] rfl)
def fX3_isWhole (σ : St)  : Option (Int32) :=
  (bd1 (fX0_size_r σ ) fun r1 => (if r1 ≤ 0 then (some (0 : Int32)) else ((if (σ 43 0) = (-1 : Int32) then ((if ((σ 45 0) &&& ((σ 44 0) ^^^ (-1 : Int32))) = 0 then (some (1 : Int32)) else (some (0 : Int32)))) else (some (0 : Int32))))))
abbrev rmX3_isWhole : Room := { frames := 1, cells := 0, slots := 0, locals := 20 }
set_option maxHeartbeats 4000000 in
set_option maxRecDepth 100000 in
theorem KX3_isWhole {l : Launch} {dC : Nat → ClassId} {dI : Nat → Nat → Nat} {cI cZ : ClassId} {a : Nat → Nat} {σ : St}  {r : Int32} (hok : okA 30 a) (h : fX3_isWhole σ  = some r) (sz : Nat) : Met l yX3_isWhole wsX3_isWhole rmX3_isWhole (Pz (dC, dI) cI cZ (wdC cI cZ a σ) sz [.ref (a 3)]) (Qzi (dC, dI) 30 a (wdC cI cZ a σ) sz r) 0 0 (aN 30 a sz) := by
  refine Met.ofW (cc := cX3_isWhole) (maxL := 1) (ret := (some .boolean)) (by decide) rfl ?_
  intro p e s m args below meth c s₁ B hml hv
  obtain ⟨hav, hsz, hP, hKK⟩ := hv
  have hx := B.exec
  have hb := B.bytes
  have hr := B.returns
  have hts := atoms_spec (ws := wsX3_isWhole) B.pre
  have hown : s.vm.findClass RX3 = some m.cls := findClass_of_methodNamed B.named
  have hlocks := B.notSynchronized
  have CF : CallFix p m c cX3_isWhole 1 s args wsX3_isWhole RX3 := ⟨hx, hb, hml, hown, hts⟩
  have hz : zz (dC, dI) 30 a (wdC cI cZ a σ) s.heap s.heap [] := ⟨hP, va_S.rf⟩
  have hl := lv_entry [.ref (a 3)] (n := 1) (Nat.le_of_ble_eq_true rfl)
  have hen : entryFrame m args 1 = entryFrame m ([.ref (a 3)] : List Value).toArray 1 := by rw [hav]
  rw [hen, lg_entry_eq]
  generalize (lg_sl [.ref (a 3)] ++ List.replicate (1 - (lg_sl [.ref (a 3)]).length) Slot.unset).toArray = ls at hl ⊢
  have hl : lv_has ls 1 [(0, .ref (a 3))] := hl
  have eR : (headSpec wsX3_isWhole rmX3_isWhole).room = rmX3_isWhole := rfl
  rw [eR]
  have rt : ∀ (v : Int32) (t : St) (pc : Nat) (H : Heap) (locs : List Loc) (ls : Array Slot), decode cX3_isWhole pc = .ok (.ireturn, 1) → some v = some r → zz (dC, dI) 30 a (wdC cI cZ a σ) s.heap H locs → (v = 0 ∨ v = 1) → W p l e rmX3_isWhole s m args below meth c H locs 0 0 (MQ below (Qzi (dC, dI) 30 a (wdC cI cZ a σ) sz r) args s 0 0 (aN 30 a sz)) (F0 m pc ls [.int v]) := by
    intro v t pc H locs ls hd h hz hv
    cases h
    exact zzret hsz hx hb hr hlocks hv hz hd
  generalize (MQ below (Qzi (dC, dI) 30 a (wdC cI cZ a σ) sz r) args s 0 0 (aN 30 a sz)) = Q at rt ⊢
  unfold fX3_isWhole at h
  refine lv_aload_n hx hb dX3_isWhole_0 rfl (lv_at hl 0 rfl) ?_
  refine va_get (v := .ref (a 4)) hx hb hts inX3_isWhole_X3 hown hKK.1 hz.1 3 rfl rfl 0 (by decide) (hts _ (List.mem_of_getElem? (i := 1) rfl)) (fun _ h9 => h9) rfl dX3_isWhole_1 ?_
  obtain ⟨r1, e3, h⟩ := bd1_e h
  refine zcallVi (As := []) (rest := []) CF hKK (KX0_size_r (dC := dC) (dI := dI) (cI := cI) (cZ := cZ) (a := a) hok e3) (cwV 0 hts gX3_isWhole_X0_size rfl rfl rfl cdX0_size ⟨Nat.le_of_ble_eq_true rfl, Nat.le_of_ble_eq_true rfl⟩) 4 0 rfl rfl hz rfl hl.1 rfl (Nat.le_of_ble_eq_true rfl) dX3_isWhole_4 ⟨Nat.le_refl _, Nat.le_refl _⟩ (fun H locs hz => ?_)
  refine lv_if_le (tgt := 36) hx hb dX3_isWhole_7 (by decide) (fun c4 => ?_) (fun c4 => ?_)
  · replace h := ite_t c4 h
    refine lv_iconst (v := (0 : Int32)) hx hb dX3_isWhole_36 (by decide) ?_
    exact rt (0 : Int32) σ 37 _ _ _ dX3_isWhole_37 h hz (Or.inl rfl)
  · replace h := ite_f c4 h
    refine lv_aload_n hx hb dX3_isWhole_10 rfl (lv_at hl 0 rfl) ?_
    refine va_get (v := .int (σ 43 0)) hx hb hts inX3_isWhole_X3 hown hKK.1 hz.1 3 rfl rfl 1 (by decide) (hts _ (List.mem_of_getElem? (i := 2) rfl)) (fun _ h9 => h9) rfl dX3_isWhole_11 ?_
    refine lv_iconst (v := (-1 : Int32)) hx hb dX3_isWhole_14 (by decide) ?_
    refine lv_icmp_ne (tgt := 36) hx hb dX3_isWhole_15 (by decide) (fun c5 => ?_) (fun c5 => ?_)
    · replace h := ite_f c5 h
      refine lv_iconst (v := (0 : Int32)) hx hb dX3_isWhole_36 (by decide) ?_
      exact rt (0 : Int32) σ 37 _ _ _ dX3_isWhole_37 h hz (Or.inl rfl)
    · replace h := ite_t c5 h
      refine lv_aload_n hx hb dX3_isWhole_18 rfl (lv_at hl 0 rfl) ?_
      refine va_get (v := .int (σ 45 0)) hx hb hts inX3_isWhole_X3 hown hKK.1 hz.1 3 rfl rfl 3 (by decide) (hts _ (List.mem_of_getElem? (i := 3) rfl)) (fun _ h9 => h9) rfl dX3_isWhole_19 ?_
      refine lv_aload_n hx hb dX3_isWhole_22 rfl (lv_at hl 0 rfl) ?_
      refine va_get (v := .int (σ 44 0)) hx hb hts inX3_isWhole_X3 hown hKK.1 hz.1 3 rfl rfl 2 (by decide) (hts _ (List.mem_of_getElem? (i := 4) rfl)) (fun _ h9 => h9) rfl dX3_isWhole_23 ?_
      refine lv_iconst (v := (-1 : Int32)) hx hb dX3_isWhole_26 (by decide) ?_
      refine lv_ixor hx hb dX3_isWhole_27 ?_
      refine lv_iand hx hb dX3_isWhole_28 ?_
      refine lv_if_ne (tgt := 36) hx hb dX3_isWhole_29 (by decide) (fun c6 => ?_) (fun c6 => ?_)
      · replace h := ite_f c6 h
        refine lv_iconst (v := (0 : Int32)) hx hb dX3_isWhole_36 (by decide) ?_
        exact rt (0 : Int32) σ 37 _ _ _ dX3_isWhole_37 h hz (Or.inl rfl)
      · replace h := ite_t c6 h
        refine lv_iconst (v := (1 : Int32)) hx hb dX3_isWhole_32 (by decide) ?_
        refine lv_goto (tgt := 37) hx hb dX3_isWhole_33 (by decide) ?_
        exact rt (1 : Int32) σ 37 _ _ _ dX3_isWhole_37 h hz (Or.inr rfl)
