def fX2_layGap_b44  (σ : St) (y1 : Int32) (y3 : Int32) : Option (Int32 × St) :=
  (bd2 (fX4_lay_c σ y1 y3) fun r8 s9 => some (r8, s9))
def fX2_layGap (σ : St) (x1 : Int32) (x2 : Int32) : Option (Int32 × St) :=
  (bd2 (fX4_lay_i σ x1 x2) fun r1 s2 => (bd1 (fX4_isIn_c s2 x1) fun r4 => (if r4 = 0 then (fX2_layGap_b44  s2 x1 r1) else ((bd1 (fX5_fillTo s2 (4 : Int32) r1) fun r11 => fX2_layGap_b44  (si s2 53 ((s2 53 0) + r11)) x1 (r1 + r11))))))
abbrev rmX2_layGap : Room := { frames := 2, cells := 0, slots := 0, locals := 42 }
set_option maxHeartbeats 4000000 in
set_option maxRecDepth 100000 in
theorem KX2_layGap {l : Launch} {dC : Nat → ClassId} {dI : Nat → Nat → Nat} {cI cZ : ClassId} {a : Nat → Nat} {σ : St} {x1 : Int32} {x2 : Int32} {r : Int32} {σ2 : St} (hok : okA 30 a) (h : fX2_layGap σ x1 x2 = some (r, σ2)) (sz : Nat) : Met l yX2_layGap wsX2_layGap rmX2_layGap (Pz (dC, dI) cI cZ (wdC cI cZ a σ) sz [.ref (a 11), .int x1, .int x2]) (Qzi (dC, dI) 30 a (wdC cI cZ a σ2) sz r) 0 0 (aN 30 a sz) := by
  refine Met.ofW (cc := cX2_layGap) (maxL := 5) (ret := (some .int)) (by decide) rfl ?_
  intro p e s m args below meth c s₁ B hml hv
  obtain ⟨hav, hsz, hP, hKK⟩ := hv
  have hx := B.exec
  have hb := B.bytes
  have hr := B.returns
  have hts := atoms_spec (ws := wsX2_layGap) B.pre
  have hown : s.vm.findClass RX2 = some m.cls := findClass_of_methodNamed B.named
  have hlocks := B.notSynchronized
  have CF : CallFix p m c cX2_layGap 5 s args wsX2_layGap RX2 := ⟨hx, hb, hml, hown, hts⟩
  have hz : zz (dC, dI) 30 a (wdC cI cZ a σ) s.heap s.heap [] := ⟨hP, va_S.rf⟩
  have hl := lv_entry [.ref (a 11), .int x1, .int x2] (n := 5) (Nat.le_of_ble_eq_true rfl)
  have hen : entryFrame m args 5 = entryFrame m ([.ref (a 11), .int x1, .int x2] : List Value).toArray 5 := by rw [hav]
  rw [hen, lg_entry_eq]
  generalize (lg_sl [.ref (a 11), .int x1, .int x2] ++ List.replicate (5 - (lg_sl [.ref (a 11), .int x1, .int x2]).length) Slot.unset).toArray = ls at hl ⊢
  have hl : lv_has ls 5 [(0, .ref (a 11)), (1, .int x1), (2, .int x2)] := hl
  have eR : (headSpec wsX2_layGap rmX2_layGap).room = rmX2_layGap := rfl
  rw [eR]
  have rt : ∀ (v : Int32) (t : St) (pc : Nat) (H : Heap) (locs : List Loc) (ls : Array Slot), decode cX2_layGap pc = .ok (.ireturn, 1) → some (v, t) = some (r, σ2) → zz (dC, dI) 30 a (wdC cI cZ a t) s.heap H locs → W p l e rmX2_layGap s m args below meth c H locs 0 0 (MQ below (Qzi (dC, dI) 30 a (wdC cI cZ a σ2) sz r) args s 0 0 (aN 30 a sz)) (F0 m pc ls [.int v]) := by
    intro v t pc H locs ls hd h hz
    cases h
    exact ziret hsz hx hb hr hlocks hz hd
  generalize (MQ below (Qzi (dC, dI) 30 a (wdC cI cZ a σ2) sz r) args s 0 0 (aN 30 a sz)) = Q at rt ⊢
  have b44 : ∀  (σ : St) (y1 : Int32) (y3 : Int32) (H : Heap) (locs : List Loc) (ls : Array Slot), fX2_layGap_b44  σ y1 y3 = some (r, σ2) → zz (dC, dI) 30 a (wdC cI cZ a σ) s.heap H locs → lv_has ls 5 [(0, .ref (a 11)), (1, .int y1), (3, .int y3)] → W p l e rmX2_layGap s m args below meth c H locs 0 0 Q (F0 m 44 ls []) := by
    intro  σ y1 y3 H locs ls h hz hl
    unfold fX2_layGap_b44 at h
    refine lv_aload_n hx hb dX2_layGap_44 rfl (lv_at hl 0 rfl) ?_
    refine va_get (v := .ref (a 18)) hx hb hts inX2_layGap_X2 hown hKK.1 hz.1 11 rfl rfl 3 (by decide) (hts _ (List.mem_of_getElem? (i := 2) rfl)) (fun _ h9 => h9) rfl dX2_layGap_45 ?_
    refine lv_iload_n hx hb dX2_layGap_48 rfl (lv_at hl 1 rfl) ?_
    refine lv_iload_n hx hb dX2_layGap_49 rfl (lv_at hl 2 rfl) ?_
    obtain ⟨r8, s9, e10, h⟩ := bd2_e h
    refine zcallVi (As := [.int y1, .int y3]) (rest := []) CF hKK (KX4_lay_c (dC := dC) (dI := dI) (cI := cI) (cZ := cZ) (a := a) hok e10) (cwV 2 hts gX2_layGap_X4_lay rfl rfl rfl cdX4_lay ⟨Nat.le_of_ble_eq_true rfl, Nat.le_of_ble_eq_true rfl⟩) 18 4 rfl rfl hz rfl hl.1 rfl (Nat.le_of_ble_eq_true rfl) dX2_layGap_50 ⟨Nat.le_refl _, Nat.le_refl _⟩ (fun H locs hz => ?_)
    exact rt r8 s9 53 _ _ _ dX2_layGap_53 h hz
  unfold fX2_layGap at h
  refine lv_aload_n hx hb dX2_layGap_0 rfl (lv_at hl 0 rfl) ?_
  refine va_get (v := .ref (a 12)) hx hb hts inX2_layGap_X2 hown hKK.1 hz.1 11 rfl rfl 2 (by decide) (hts _ (List.mem_of_getElem? (i := 1) rfl)) (fun _ h9 => h9) rfl dX2_layGap_1 ?_
  refine lv_iload_n hx hb dX2_layGap_4 rfl (lv_at hl 1 rfl) ?_
  refine lv_iload_n hx hb dX2_layGap_5 rfl (lv_at hl 2 rfl) ?_
  obtain ⟨r1, s2, e3, h⟩ := bd2_e h
  refine zcallVi (As := [.int x1, .int x2]) (rest := []) CF hKK (KX4_lay_i (dC := dC) (dI := dI) (cI := cI) (cZ := cZ) (a := a) hok e3) (cwV 2 hts gX2_layGap_X4_lay rfl rfl rfl cdX4_lay ⟨Nat.le_of_ble_eq_true rfl, Nat.le_of_ble_eq_true rfl⟩) 12 4 rfl rfl hz rfl hl.1 rfl (Nat.le_of_ble_eq_true rfl) dX2_layGap_6 ⟨Nat.le_refl _, Nat.le_refl _⟩ (fun H locs hz => ?_)
  refine lv_istore_n (lv' := [(3, .int r1), (0, .ref (a 11)), (1, .int x1), (2, .int x2)]) hx hb dX2_layGap_9 rfl hl (by decide) rfl (fun ls hl => ?_)
  refine lv_aload_n hx hb dX2_layGap_10 rfl (lv_at hl 1 rfl) ?_
  refine va_get (v := .ref (a 18)) hx hb hts inX2_layGap_X2 hown hKK.1 hz.1 11 rfl rfl 3 (by decide) (hts _ (List.mem_of_getElem? (i := 2) rfl)) (fun _ h9 => h9) rfl dX2_layGap_11 ?_
  refine lv_iload_n hx hb dX2_layGap_14 rfl (lv_at hl 2 rfl) ?_
  obtain ⟨r4, e6, h⟩ := bd1_e h
  refine zcallVi (As := [.int x1]) (rest := []) CF hKK (KX4_isIn_c (dC := dC) (dI := dI) (cI := cI) (cZ := cZ) (a := a) hok e6) (cwV 1 hts gX2_layGap_X4_isIn rfl rfl rfl cdX4_isIn ⟨Nat.le_of_ble_eq_true rfl, Nat.le_of_ble_eq_true rfl⟩) 18 4 rfl rfl hz rfl hl.1 rfl (Nat.le_of_ble_eq_true rfl) dX2_layGap_15 ⟨Nat.le_refl _, Nat.le_refl _⟩ (fun H locs hz => ?_)
  refine lv_if_eq (tgt := 44) hx hb dX2_layGap_18 (by decide) (fun c7 => ?_) (fun c7 => ?_)
  · replace h := ite_t c7 h
    exact b44  s2 x1 r1 _ _ _ h hz (lv_sub hl [1, 2, 0] rfl)
  · replace h := ite_f c7 h
    refine lv_iconst (v := (4 : Int32)) hx hb dX2_layGap_21 (by decide) ?_
    refine lv_iload_n hx hb dX2_layGap_22 rfl (lv_at hl 0 rfl) ?_
    obtain ⟨r11, e13, h⟩ := bd1_e h
    refine zcallSNi (As := [.int (4 : Int32), .int r1]) (rest := []) CF hKK (KX5_fillTo (dC := dC) (dI := dI) (cI := cI) (cZ := cZ) (a := a) hok e13) ⟨va_cnB 2 hts gX2_layGap_X5_fillTo_n114 rfl rfl rfl hKK.2.2.2.2.2.2.2.2.2.2.2.2.2.2.1 (hts _ (List.mem_of_getElem? (i := 19) rfl)) cdX5_fillTo.2 ⟨Nat.le_of_ble_eq_true rfl, Nat.le_of_ble_eq_true rfl⟩, hts _ (List.mem_of_getElem? (i := 18) rfl), trivial⟩ hz rfl hl.1 rfl (Nat.le_of_ble_eq_true rfl) dX2_layGap_23 ⟨Nat.le_refl _, Nat.le_refl _⟩ (fun H locs hz => ?_)
    refine lv_istore (lv' := [(4, .int r11), (3, .int r1), (0, .ref (a 11)), (1, .int x1), (2, .int x2)]) hx hb dX2_layGap_26 hl (by decide) rfl (fun ls hl => ?_)
    refine lv_aload_n hx hb dX2_layGap_28 rfl (lv_at hl 2 rfl) ?_
    refine lv_dup hx hb dX2_layGap_29 rfl ?_
    refine va_get (v := .int (s2 53 0)) hx hb hts inX2_layGap_X2 hown hKK.1 hz.1 11 rfl rfl 13 (by decide) (hts _ (List.mem_of_getElem? (i := 3) rfl)) (fun _ h9 => h9) rfl dX2_layGap_30 ?_
    refine lv_iload hx hb dX2_layGap_33 (lv_at hl 0 rfl) ?_
    refine lv_iadd hx hb dX2_layGap_35 ?_
    refine zput (ty := .int) (w' := wdC cI cZ a (si s2 53 ((s2 53 0) + r11))) hx hb hts inX2_layGap_X2 tyX2 tyX2_ok nmX2 hown hKK hok wkC hz 11 rfl rfl 13 (by decide) (hts _ (List.mem_of_getElem? (i := 3) rfl)) (fun _ h9 => h9) rfl rfl rfl rfl (Nat.le_of_ble_eq_true rfl) setCi_53 dX2_layGap_36 (fun H locs hz => ?_)
    refine lv_iload_n hx hb dX2_layGap_39 rfl (lv_at hl 1 rfl) ?_
    refine lv_iload hx hb dX2_layGap_40 (lv_at hl 0 rfl) ?_
    refine lv_iadd hx hb dX2_layGap_42 ?_
    refine lv_istore_n (lv' := [(3, .int (r1 + r11)), (4, .int r11), (0, .ref (a 11)), (1, .int x1), (2, .int x2)]) hx hb dX2_layGap_43 rfl hl (by decide) rfl (fun ls hl => ?_)
    exact b44  (si s2 53 ((s2 53 0) + r11)) x1 (r1 + r11) _ _ _ h hz (lv_sub hl [2, 3, 0] rfl)
def fX2_lay_b121  (σ : St) (y1 : Int32) : Option (St) :=
  some (si σ 52 y1)
def fX2_lay_s9 (k9 : St → Int32 → Int32 → Option (St)) (σ : St) (y1 : Int32) (y2 : Int32) : Option (St) :=
  (bd1 (fX0_size_p σ ) fun r1 => (if r1 ≤ y2 then (fX2_lay_b121  σ y1) else ((if (24 : Int32) ≤ y2 then (fX2_lay_b121  σ y1) else ((bd1 (fX0_kindOf_p σ y2) fun r6 => (bd1 (fX2_sizeAt σ y2 y1) fun r9 => (ck (¬ (y2 < 0 ∨ 24 ≤ Int32.toNatClampNeg y2)) <| (ck (¬ (y2 < 0 ∨ 24 ≤ Int32.toNatClampNeg y2)) <| (if r6 = (4 : Int32) then (k9 (si (sa (sa σ 25 (Int32.toNatClampNeg y2) y1) 26 (Int32.toNatClampNeg y2) r9) 53 ((σ 53 0) + r9)) (y1 + r9) (y2 + (1 : Int32))) else ((if r6 = (3 : Int32) then ((bd1 (fX0_toldOf_p (sa (sa σ 25 (Int32.toNatClampNeg y2) y1) 26 (Int32.toNatClampNeg y2) r9) y2) fun r20 => (bd1 (fX2_noteLabel (sa (sa σ 25 (Int32.toNatClampNeg y2) y1) 26 (Int32.toNatClampNeg y2) r9) r20 (y1 + r9)) fun s24 => k9 s24 (y1 + r9) (y2 + (1 : Int32))))) else ((if r6 = (5 : Int32) then ((bd2 (fX2_layGap (sa (sa σ 25 (Int32.toNatClampNeg y2) y1) 26 (Int32.toNatClampNeg y2) r9) y2 (y1 + r9)) fun r17 s18 => k9 s18 r17 (y2 + (1 : Int32)))) else (k9 (sa (sa σ 25 (Int32.toNatClampNeg y2) y1) 26 (Int32.toNatClampNeg y2) r9) (y1 + r9) (y2 + (1 : Int32)))))))))))))))))
def fX2_lay_l9  : Nat → St → Int32 → Int32 → Option (St) :=
  itr (fX2_lay_s9 ) (fun _ _ _ => none)
def fX2_lay (σ : St)  : Option (St) :=
  fX2_lay_l9  FU (si σ 53 (0 : Int32)) (0 : Int32) (0 : Int32)
abbrev rmX2_lay : Room := { frames := 3, cells := 0, slots := 0, locals := 66 }
set_option maxHeartbeats 4000000 in
set_option maxRecDepth 100000 in
theorem KX2_lay {l : Launch} {dC : Nat → ClassId} {dI : Nat → Nat → Nat} {cI cZ : ClassId} {a : Nat → Nat} {σ : St}  {σ2 : St} (hok : okA 30 a) (h : fX2_lay σ  = some σ2) (sz : Nat) : Met l yX2_lay wsX2_lay rmX2_lay (Pz (dC, dI) cI cZ (wdC cI cZ a σ) sz [.ref (a 11)]) (Qzv (dC, dI) 30 a (wdC cI cZ a σ2) sz) 0 0 (aN 30 a sz) := by
  refine Met.ofW (cc := cX2_lay) (maxL := 5) (ret := none) (by decide) rfl ?_
  intro p e s m args below meth c s₁ B hml hv
  obtain ⟨hav, hsz, hP, hKK⟩ := hv
  have hx := B.exec
  have hb := B.bytes
  have hr := B.returns
  have hts := atoms_spec (ws := wsX2_lay) B.pre
  have hown : s.vm.findClass RX2 = some m.cls := findClass_of_methodNamed B.named
  have hlocks := B.notSynchronized
  have CF : CallFix p m c cX2_lay 5 s args wsX2_lay RX2 := ⟨hx, hb, hml, hown, hts⟩
  have hz : zz (dC, dI) 30 a (wdC cI cZ a σ) s.heap s.heap [] := ⟨hP, va_S.rf⟩
  have hl := lv_entry [.ref (a 11)] (n := 5) (Nat.le_of_ble_eq_true rfl)
  have hen : entryFrame m args 5 = entryFrame m ([.ref (a 11)] : List Value).toArray 5 := by rw [hav]
  rw [hen, lg_entry_eq]
  generalize (lg_sl [.ref (a 11)] ++ List.replicate (5 - (lg_sl [.ref (a 11)]).length) Slot.unset).toArray = ls at hl ⊢
  have hl : lv_has ls 5 [(0, .ref (a 11))] := hl
  have eR : (headSpec wsX2_lay rmX2_lay).room = rmX2_lay := rfl
  rw [eR]
  have rt : ∀ (t : St) (pc : Nat) (H : Heap) (locs : List Loc) (ls : Array Slot), decode cX2_lay pc = .ok (.return_, 1) → some t = some σ2 → zz (dC, dI) 30 a (wdC cI cZ a t) s.heap H locs → W p l e rmX2_lay s m args below meth c H locs 0 0 (MQ below (Qzv (dC, dI) 30 a (wdC cI cZ a σ2) sz) args s 0 0 (aN 30 a sz)) (F0 m pc ls []) := by
    intro t pc H locs ls hd h hz
    cases h
    exact zvret hsz hx hb hr hlocks hz hd
  generalize (MQ below (Qzv (dC, dI) 30 a (wdC cI cZ a σ2) sz) args s 0 0 (aN 30 a sz)) = Q at rt ⊢
  have b121 : ∀  (σ : St) (y1 : Int32) (H : Heap) (locs : List Loc) (ls : Array Slot), fX2_lay_b121  σ y1 = some σ2 → zz (dC, dI) 30 a (wdC cI cZ a σ) s.heap H locs → lv_has ls 5 [(0, .ref (a 11)), (1, .int y1)] → W p l e rmX2_lay s m args below meth c H locs 0 0 Q (F0 m 121 ls []) := by
    intro  σ y1 H locs ls h hz hl
    unfold fX2_lay_b121 at h
    refine lv_aload_n hx hb dX2_lay_121 rfl (lv_at hl 0 rfl) ?_
    refine lv_iload_n hx hb dX2_lay_122 rfl (lv_at hl 1 rfl) ?_
    refine zput (ty := .int) (w' := wdC cI cZ a (si σ 52 y1)) hx hb hts inX2_lay_X2 tyX2 tyX2_ok nmX2 hown hKK hok wkC hz 11 rfl rfl 12 (by decide) (hts _ (List.mem_of_getElem? (i := 5) rfl)) (fun _ h9 => h9) rfl rfl rfl rfl (Nat.le_of_ble_eq_true rfl) setCi_52 dX2_lay_123 (fun H locs hz => ?_)
    exact rt (si σ 52 y1) 126 _ _ _ dX2_lay_126 h hz
  have s9 : ∀ (k9 : St → Int32 → Int32 → Option (St)) (hk9 : (∀ (σ : St) (y1 : Int32) (y2 : Int32) (H : Heap) (locs : List Loc) (ls : Array Slot), k9 σ y1 y2 = some σ2 → zz (dC, dI) 30 a (wdC cI cZ a σ) s.heap H locs → lv_has ls 5 [(0, .ref (a 11)), (1, .int y1), (2, .int y2)] → W p l e rmX2_lay s m args below meth c H locs 0 0 Q (F0 m 9 ls []))) (σ : St) (y1 : Int32) (y2 : Int32) (H : Heap) (locs : List Loc) (ls : Array Slot), fX2_lay_s9 k9 σ y1 y2 = some σ2 → zz (dC, dI) 30 a (wdC cI cZ a σ) s.heap H locs → lv_has ls 5 [(0, .ref (a 11)), (1, .int y1), (2, .int y2)] → W p l e rmX2_lay s m args below meth c H locs 0 0 Q (F0 m 9 ls []) := by
    intro k9 hk9 σ y1 y2 H locs ls h hz hl
    unfold fX2_lay_s9 at h
    refine lv_iload_n hx hb dX2_lay_9 rfl (lv_at hl 2 rfl) ?_
    refine lv_aload_n hx hb dX2_lay_10 rfl (lv_at hl 0 rfl) ?_
    refine va_get (v := .ref (a 7)) hx hb hts inX2_lay_X2 hown hKK.1 hz.1 11 rfl rfl 0 (by decide) (hts _ (List.mem_of_getElem? (i := 2) rfl)) (fun _ h9 => h9) rfl dX2_lay_11 ?_
    obtain ⟨r1, e3, h⟩ := bd1_e h
    refine zcallVi (As := []) (rest := [.int y2]) CF hKK (KX0_size_p (dC := dC) (dI := dI) (cI := cI) (cZ := cZ) (a := a) hok e3) (cwV 0 hts gX2_lay_X0_size rfl rfl rfl cdX0_size ⟨Nat.le_of_ble_eq_true rfl, Nat.le_of_ble_eq_true rfl⟩) 7 0 rfl rfl hz rfl hl.1 rfl (Nat.le_of_ble_eq_true rfl) dX2_lay_14 ⟨Nat.le_refl _, Nat.le_refl _⟩ (fun H locs hz => ?_)
    refine lv_icmp_ge (tgt := 121) hx hb dX2_lay_17 (by decide) (fun c4 => ?_) (fun c4 => ?_)
    · replace h := ite_t c4 h
      exact b121  σ y1 _ _ _ h hz (lv_sub hl [0, 1] rfl)
    · replace h := ite_f c4 h
      refine lv_iload_n hx hb dX2_lay_20 rfl (lv_at hl 2 rfl) ?_
      refine lv_bipush (v := (24 : Int32)) hx hb dX2_lay_21 (by decide) ?_
      refine lv_icmp_ge (tgt := 121) hx hb dX2_lay_23 (by decide) (fun c5 => ?_) (fun c5 => ?_)
      · replace h := ite_t c5 h
        exact b121  σ y1 _ _ _ h hz (lv_sub hl [0, 1] rfl)
      · replace h := ite_f c5 h
        refine lv_aload_n hx hb dX2_lay_26 rfl (lv_at hl 0 rfl) ?_
        refine va_get (v := .ref (a 7)) hx hb hts inX2_lay_X2 hown hKK.1 hz.1 11 rfl rfl 0 (by decide) (hts _ (List.mem_of_getElem? (i := 2) rfl)) (fun _ h9 => h9) rfl dX2_lay_27 ?_
        refine lv_iload_n hx hb dX2_lay_30 rfl (lv_at hl 2 rfl) ?_
        obtain ⟨r6, e8, h⟩ := bd1_e h
        refine zcallVi (As := [.int y2]) (rest := []) CF hKK (KX0_kindOf_p (dC := dC) (dI := dI) (cI := cI) (cZ := cZ) (a := a) hok e8) (cwV 1 hts gX2_lay_X0_kindOf rfl rfl rfl cdX0_kindOf ⟨Nat.le_of_ble_eq_true rfl, Nat.le_of_ble_eq_true rfl⟩) 7 0 rfl rfl hz rfl hl.1 rfl (Nat.le_of_ble_eq_true rfl) dX2_lay_31 ⟨Nat.le_refl _, Nat.le_refl _⟩ (fun H locs hz => ?_)
        refine lv_istore_n (lv' := [(3, .int r6), (0, .ref (a 11)), (1, .int y1), (2, .int y2)]) hx hb dX2_lay_34 rfl hl (by decide) rfl (fun ls hl => ?_)
        refine lv_aload_n hx hb dX2_lay_35 rfl (lv_at hl 1 rfl) ?_
        refine lv_iload_n hx hb dX2_lay_36 rfl (lv_at hl 3 rfl) ?_
        refine lv_iload_n hx hb dX2_lay_37 rfl (lv_at hl 2 rfl) ?_
        obtain ⟨r9, e11, h⟩ := bd1_e h
        refine zcallVi (As := [.int y2, .int y1]) (rest := []) CF hKK (KX2_sizeAt (dC := dC) (dI := dI) (cI := cI) (cZ := cZ) (a := a) hok e11) (cwV 2 hts gX2_lay_X2_sizeAt rfl rfl rfl cdX2_sizeAt ⟨Nat.le_of_ble_eq_true rfl, Nat.le_of_ble_eq_true rfl⟩) 11 2 rfl rfl hz rfl hl.1 rfl (Nat.le_of_ble_eq_true rfl) dX2_lay_38 ⟨Nat.le_refl _, Nat.le_refl _⟩ (fun H locs hz => ?_)
        refine lv_istore (lv' := [(4, .int r9), (3, .int r6), (0, .ref (a 11)), (1, .int y1), (2, .int y2)]) hx hb dX2_lay_41 hl (by decide) rfl (fun ls hl => ?_)
        refine lv_aload_n hx hb dX2_lay_43 rfl (lv_at hl 2 rfl) ?_
        refine va_get (v := .ref (a 25)) hx hb hts inX2_lay_X2 hown hKK.1 hz.1 11 rfl rfl 5 (by decide) (hts _ (List.mem_of_getElem? (i := 3) rfl)) (fun _ h9 => h9) rfl dX2_lay_44 ?_
        refine lv_iload_n hx hb dX2_lay_47 rfl (lv_at hl 4 rfl) ?_
        refine lv_iload_n hx hb dX2_lay_48 rfl (lv_at hl 3 rfl) ?_
        obtain ⟨c12, h⟩ := ck_e h
        refine ziast (f := σ 25) (w' := wdC cI cZ a (sa σ 25 (Int32.toNatClampNeg y2) y1)) hx hb hKK hok wkC hz 25 rfl c12 setCa_25 dX2_lay_49 (fun H locs hz => ?_)
        refine lv_aload_n hx hb dX2_lay_50 rfl (lv_at hl 2 rfl) ?_
        refine va_get (v := .ref (a 26)) hx hb hts inX2_lay_X2 hown hKK.1 hz.1 11 rfl rfl 6 (by decide) (hts _ (List.mem_of_getElem? (i := 4) rfl)) (fun _ h9 => h9) rfl dX2_lay_51 ?_
        refine lv_iload_n hx hb dX2_lay_54 rfl (lv_at hl 4 rfl) ?_
        refine lv_iload hx hb dX2_lay_55 (lv_at hl 0 rfl) ?_
        obtain ⟨c13, h⟩ := ck_e h
        refine ziast (f := (sa σ 25 (Int32.toNatClampNeg y2) y1) 26) (w' := wdC cI cZ a (sa (sa σ 25 (Int32.toNatClampNeg y2) y1) 26 (Int32.toNatClampNeg y2) r9)) hx hb hKK hok wkC hz 26 rfl c13 setCa_26 dX2_lay_57 (fun H locs hz => ?_)
        refine lv_iload_n hx hb dX2_lay_58 rfl (lv_at hl 3 rfl) ?_
        refine lv_iload hx hb dX2_lay_59 (lv_at hl 0 rfl) ?_
        refine lv_iadd hx hb dX2_lay_61 ?_
        refine lv_istore_n (lv' := [(1, .int (y1 + r9)), (4, .int r9), (3, .int r6), (0, .ref (a 11)), (2, .int y2)]) hx hb dX2_lay_62 rfl hl (by decide) rfl (fun ls hl => ?_)
        refine lv_iload_n hx hb dX2_lay_63 rfl (lv_at hl 2 rfl) ?_
        refine lv_iconst (v := (4 : Int32)) hx hb dX2_lay_64 (by decide) ?_
        refine lv_icmp_ne (tgt := 82) hx hb dX2_lay_65 (by decide) (fun c14 => ?_) (fun c14 => ?_)
        · replace h := ite_f c14 h
          refine lv_iload_n hx hb dX2_lay_82 rfl (lv_at hl 2 rfl) ?_
          refine lv_iconst (v := (3 : Int32)) hx hb dX2_lay_83 (by decide) ?_
          refine lv_icmp_ne (tgt := 103) hx hb dX2_lay_84 (by decide) (fun c15 => ?_) (fun c15 => ?_)
          · replace h := ite_f c15 h
            refine lv_iload_n hx hb dX2_lay_103 rfl (lv_at hl 2 rfl) ?_
            refine lv_iconst (v := (5 : Int32)) hx hb dX2_lay_104 (by decide) ?_
            refine lv_icmp_ne (tgt := 115) hx hb dX2_lay_105 (by decide) (fun c16 => ?_) (fun c16 => ?_)
            · replace h := ite_f c16 h
              refine lv_iinc (v := (y2 + (1 : Int32))) (lv' := [(2, .int (y2 + (1 : Int32))), (1, .int (y1 + r9)), (4, .int r9), (3, .int r6), (0, .ref (a 11))]) hx hb dX2_lay_115 hl (k := 4) rfl rfl (by decide) rfl (fun ls hl => ?_)
              refine lv_goto (tgt := 9) hx hb dX2_lay_118 (by decide) ?_
              exact hk9 (sa (sa σ 25 (Int32.toNatClampNeg y2) y1) 26 (Int32.toNatClampNeg y2) r9) (y1 + r9) (y2 + (1 : Int32)) _ _ _ h hz (lv_sub hl [4, 1, 0] rfl)
            · replace h := ite_t c16 h
              refine lv_aload_n hx hb dX2_lay_108 rfl (lv_at hl 3 rfl) ?_
              refine lv_iload_n hx hb dX2_lay_109 rfl (lv_at hl 4 rfl) ?_
              refine lv_iload_n hx hb dX2_lay_110 rfl (lv_at hl 0 rfl) ?_
              obtain ⟨r17, s18, e19, h⟩ := bd2_e h
              refine zcallVi (As := [.int y2, .int (y1 + r9)]) (rest := []) CF hKK (KX2_layGap (dC := dC) (dI := dI) (cI := cI) (cZ := cZ) (a := a) hok e19) (cwV 2 hts gX2_lay_X2_layGap rfl rfl rfl cdX2_layGap ⟨Nat.le_of_ble_eq_true rfl, Nat.le_of_ble_eq_true rfl⟩) 11 2 rfl rfl hz rfl hl.1 rfl (Nat.le_of_ble_eq_true rfl) dX2_lay_111 ⟨Nat.le_refl _, Nat.le_refl _⟩ (fun H locs hz => ?_)
              refine lv_istore_n (lv' := [(1, .int r17), (4, .int r9), (3, .int r6), (0, .ref (a 11)), (2, .int y2)]) hx hb dX2_lay_114 rfl hl (by decide) rfl (fun ls hl => ?_)
              refine lv_iinc (v := (y2 + (1 : Int32))) (lv' := [(2, .int (y2 + (1 : Int32))), (1, .int r17), (4, .int r9), (3, .int r6), (0, .ref (a 11))]) hx hb dX2_lay_115 hl (k := 4) rfl rfl (by decide) rfl (fun ls hl => ?_)
              refine lv_goto (tgt := 9) hx hb dX2_lay_118 (by decide) ?_
              exact hk9 s18 r17 (y2 + (1 : Int32)) _ _ _ h hz (lv_sub hl [4, 1, 0] rfl)
          · replace h := ite_t c15 h
            refine lv_aload_n hx hb dX2_lay_87 rfl (lv_at hl 3 rfl) ?_
            refine lv_aload_n hx hb dX2_lay_88 rfl (lv_at hl 3 rfl) ?_
            refine va_get (v := .ref (a 7)) hx hb hts inX2_lay_X2 hown hKK.1 hz.1 11 rfl rfl 0 (by decide) (hts _ (List.mem_of_getElem? (i := 2) rfl)) (fun _ h9 => h9) rfl dX2_lay_89 ?_
            refine lv_iload_n hx hb dX2_lay_92 rfl (lv_at hl 4 rfl) ?_
            obtain ⟨r20, e22, h⟩ := bd1_e h
            refine zcallVi (As := [.int y2]) (rest := [.ref (a 11)]) CF hKK (KX0_toldOf_p (dC := dC) (dI := dI) (cI := cI) (cZ := cZ) (a := a) hok e22) (cwV 1 hts gX2_lay_X0_toldOf rfl rfl rfl cdX0_toldOf ⟨Nat.le_of_ble_eq_true rfl, Nat.le_of_ble_eq_true rfl⟩) 7 0 rfl rfl hz rfl hl.1 rfl (Nat.le_of_ble_eq_true rfl) dX2_lay_93 ⟨Nat.le_refl _, Nat.le_refl _⟩ (fun H locs hz => ?_)
            refine lv_iload_n hx hb dX2_lay_96 rfl (lv_at hl 0 rfl) ?_
            obtain ⟨s24, e25, h⟩ := bd1_e h
            refine zcallVv (As := [.int r20, .int (y1 + r9)]) (rest := []) CF hKK (KX2_noteLabel (dC := dC) (dI := dI) (cI := cI) (cZ := cZ) (a := a) hok e25) (cwV 2 hts gX2_lay_X2_noteLabel rfl rfl rfl cdX2_noteLabel ⟨Nat.le_of_ble_eq_true rfl, Nat.le_of_ble_eq_true rfl⟩) 11 2 rfl rfl hz rfl hl.1 rfl (Nat.le_of_ble_eq_true rfl) dX2_lay_97 ⟨Nat.le_refl _, Nat.le_refl _⟩ (fun H locs hz => ?_)
            refine lv_goto (tgt := 115) hx hb dX2_lay_100 (by decide) ?_
            refine lv_iinc (v := (y2 + (1 : Int32))) (lv' := [(2, .int (y2 + (1 : Int32))), (1, .int (y1 + r9)), (4, .int r9), (3, .int r6), (0, .ref (a 11))]) hx hb dX2_lay_115 hl (k := 4) rfl rfl (by decide) rfl (fun ls hl => ?_)
            refine lv_goto (tgt := 9) hx hb dX2_lay_118 (by decide) ?_
            exact hk9 s24 (y1 + r9) (y2 + (1 : Int32)) _ _ _ h hz (lv_sub hl [4, 1, 0] rfl)
        · replace h := ite_t c14 h
          refine lv_aload_n hx hb dX2_lay_68 rfl (lv_at hl 3 rfl) ?_
          refine lv_dup hx hb dX2_lay_69 rfl ?_
          refine va_get (v := .int (σ 53 0)) hx hb hts inX2_lay_X2 hown hKK.1 hz.1 11 rfl rfl 13 (by decide) (hts _ (List.mem_of_getElem? (i := 1) rfl)) (fun _ h9 => h9) rfl dX2_lay_70 ?_
          refine lv_iload hx hb dX2_lay_73 (lv_at hl 1 rfl) ?_
          refine lv_iadd hx hb dX2_lay_75 ?_
          refine zput (ty := .int) (w' := wdC cI cZ a (si (sa (sa σ 25 (Int32.toNatClampNeg y2) y1) 26 (Int32.toNatClampNeg y2) r9) 53 ((σ 53 0) + r9))) hx hb hts inX2_lay_X2 tyX2 tyX2_ok nmX2 hown hKK hok wkC hz 11 rfl rfl 13 (by decide) (hts _ (List.mem_of_getElem? (i := 1) rfl)) (fun _ h9 => h9) rfl rfl rfl rfl (Nat.le_of_ble_eq_true rfl) setCi_53 dX2_lay_76 (fun H locs hz => ?_)
          refine lv_goto (tgt := 115) hx hb dX2_lay_79 (by decide) ?_
          refine lv_iinc (v := (y2 + (1 : Int32))) (lv' := [(2, .int (y2 + (1 : Int32))), (1, .int (y1 + r9)), (4, .int r9), (3, .int r6), (0, .ref (a 11))]) hx hb dX2_lay_115 hl (k := 4) rfl rfl (by decide) rfl (fun ls hl => ?_)
          refine lv_goto (tgt := 9) hx hb dX2_lay_118 (by decide) ?_
          exact hk9 (si (sa (sa σ 25 (Int32.toNatClampNeg y2) y1) 26 (Int32.toNatClampNeg y2) r9) 53 ((σ 53 0) + r9)) (y1 + r9) (y2 + (1 : Int32)) _ _ _ h hz (lv_sub hl [4, 1, 0] rfl)
  have l9 : ∀  (n : Nat), ∀ (σ : St) (y1 : Int32) (y2 : Int32) (H : Heap) (locs : List Loc) (ls : Array Slot), fX2_lay_l9  n σ y1 y2 = some σ2 → zz (dC, dI) 30 a (wdC cI cZ a σ) s.heap H locs → lv_has ls 5 [(0, .ref (a 11)), (1, .int y1), (2, .int y2)] → W p l e rmX2_lay s m args below meth c H locs 0 0 Q (F0 m 9 ls []) := by
    intro  n
    induction n with
    | zero => intro σ y1 y2 H locs ls h; exact nomatch h
    | succ n ih => exact s9  (fX2_lay_l9  n) ih
  unfold fX2_lay at h
  refine lv_iconst (v := (0 : Int32)) hx hb dX2_lay_0 (by decide) ?_
  refine lv_istore_n (lv' := [(1, .int (0 : Int32)), (0, .ref (a 11))]) hx hb dX2_lay_1 rfl hl (by decide) rfl (fun ls hl => ?_)
  refine lv_aload_n hx hb dX2_lay_2 rfl (lv_at hl 1 rfl) ?_
  refine lv_iconst (v := (0 : Int32)) hx hb dX2_lay_3 (by decide) ?_
  refine zput (ty := .int) (w' := wdC cI cZ a (si σ 53 (0 : Int32))) hx hb hts inX2_lay_X2 tyX2 tyX2_ok nmX2 hown hKK hok wkC hz 11 rfl rfl 13 (by decide) (hts _ (List.mem_of_getElem? (i := 1) rfl)) (fun _ h9 => h9) rfl rfl rfl rfl (Nat.le_of_ble_eq_true rfl) setCi_53 dX2_lay_4 (fun H locs hz => ?_)
  refine lv_iconst (v := (0 : Int32)) hx hb dX2_lay_7 (by decide) ?_
  refine lv_istore_n (lv' := [(2, .int (0 : Int32)), (1, .int (0 : Int32)), (0, .ref (a 11))]) hx hb dX2_lay_8 rfl hl (by decide) rfl (fun ls hl => ?_)
  exact l9  FU (si σ 53 (0 : Int32)) (0 : Int32) (0 : Int32) _ _ _ h hz (lv_sub hl [2, 1, 0] rfl)
def fX2_addressOf (σ : St) (x1 : Int32) : Option (Int32) :=
  (if x1 < 0 then (some (-1 : Int32)) else ((if (24 : Int32) ≤ x1 then (some (-1 : Int32)) else ((ck (¬ (x1 < 0 ∨ 24 ≤ Int32.toNatClampNeg x1)) <| some ((σ 25) (Int32.toNatClampNeg x1)))))))
abbrev rmX2_addressOf : Room := { frames := 0, cells := 0, slots := 0, locals := 0 }
set_option maxHeartbeats 4000000 in
set_option maxRecDepth 100000 in
theorem KX2_addressOf {l : Launch} {dC : Nat → ClassId} {dI : Nat → Nat → Nat} {cI cZ : ClassId} {a : Nat → Nat} {σ : St} {x1 : Int32} {r : Int32} (hok : okA 30 a) (h : fX2_addressOf σ x1 = some r) (sz : Nat) : Met l yX2_addressOf wsX2_addressOf rmX2_addressOf (Pz (dC, dI) cI cZ (wdC cI cZ a σ) sz [.ref (a 11), .int x1]) (Qzi (dC, dI) 30 a (wdC cI cZ a σ) sz r) 0 0 (aN 30 a sz) := by
  refine Met.ofW (cc := cX2_addressOf) (maxL := 2) (ret := (some .int)) (by decide) rfl ?_
  intro p e s m args below meth c s₁ B hml hv
  obtain ⟨hav, hsz, hP, hKK⟩ := hv
  have hx := B.exec
  have hb := B.bytes
  have hr := B.returns
  have hts := atoms_spec (ws := wsX2_addressOf) B.pre
  have hown : s.vm.findClass RX2 = some m.cls := findClass_of_methodNamed B.named
  have hlocks := B.notSynchronized
  have CF : CallFix p m c cX2_addressOf 2 s args wsX2_addressOf RX2 := ⟨hx, hb, hml, hown, hts⟩
  have hz : zz (dC, dI) 30 a (wdC cI cZ a σ) s.heap s.heap [] := ⟨hP, va_S.rf⟩
  have hl := lv_entry [.ref (a 11), .int x1] (n := 2) (Nat.le_of_ble_eq_true rfl)
  have hen : entryFrame m args 2 = entryFrame m ([.ref (a 11), .int x1] : List Value).toArray 2 := by rw [hav]
  rw [hen, lg_entry_eq]
  generalize (lg_sl [.ref (a 11), .int x1] ++ List.replicate (2 - (lg_sl [.ref (a 11), .int x1]).length) Slot.unset).toArray = ls at hl ⊢
  have hl : lv_has ls 2 [(0, .ref (a 11)), (1, .int x1)] := hl
  have eR : (headSpec wsX2_addressOf rmX2_addressOf).room = rmX2_addressOf := rfl
  rw [eR]
  have rt : ∀ (v : Int32) (t : St) (pc : Nat) (H : Heap) (locs : List Loc) (ls : Array Slot), decode cX2_addressOf pc = .ok (.ireturn, 1) → some v = some r → zz (dC, dI) 30 a (wdC cI cZ a σ) s.heap H locs → W p l e rmX2_addressOf s m args below meth c H locs 0 0 (MQ below (Qzi (dC, dI) 30 a (wdC cI cZ a σ) sz r) args s 0 0 (aN 30 a sz)) (F0 m pc ls [.int v]) := by
    intro v t pc H locs ls hd h hz
    cases h
    exact ziret hsz hx hb hr hlocks hz hd
  generalize (MQ below (Qzi (dC, dI) 30 a (wdC cI cZ a σ) sz r) args s 0 0 (aN 30 a sz)) = Q at rt ⊢
  unfold fX2_addressOf at h
  refine lv_iload_n hx hb dX2_addressOf_0 rfl (lv_at hl 1 rfl) ?_
  refine lv_if_lt (tgt := 22) hx hb dX2_addressOf_1 (by decide) (fun c1 => ?_) (fun c1 => ?_)
  · replace h := ite_t c1 h
    refine lv_iconst (v := (-1 : Int32)) hx hb dX2_addressOf_22 (by decide) ?_
    exact rt (-1 : Int32) σ 23 _ _ _ dX2_addressOf_23 h hz
  · replace h := ite_f c1 h
    refine lv_iload_n hx hb dX2_addressOf_4 rfl (lv_at hl 1 rfl) ?_
    refine lv_aload_n hx hb dX2_addressOf_5 rfl (lv_at hl 0 rfl) ?_
    refine va_get (v := .ref (a 25)) hx hb hts inX2_addressOf_X2 hown hKK.1 hz.1 11 rfl rfl 5 (by decide) (hts _ (List.mem_of_getElem? (i := 1) rfl)) (fun _ h9 => h9) rfl dX2_addressOf_6 ?_
    refine va_alen (v := (24 : Int32)) hx hb hKK.1 hz.1 25 0 rfl rfl rfl dX2_addressOf_9 ?_
    refine lv_icmp_ge (tgt := 22) hx hb dX2_addressOf_10 (by decide) (fun c2 => ?_) (fun c2 => ?_)
    · replace h := ite_t c2 h
      refine lv_iconst (v := (-1 : Int32)) hx hb dX2_addressOf_22 (by decide) ?_
      exact rt (-1 : Int32) σ 23 _ _ _ dX2_addressOf_23 h hz
    · replace h := ite_f c2 h
      refine lv_aload_n hx hb dX2_addressOf_13 rfl (lv_at hl 0 rfl) ?_
      refine va_get (v := .ref (a 25)) hx hb hts inX2_addressOf_X2 hown hKK.1 hz.1 11 rfl rfl 5 (by decide) (hts _ (List.mem_of_getElem? (i := 1) rfl)) (fun _ h9 => h9) rfl dX2_addressOf_14 ?_
      refine lv_iload_n hx hb dX2_addressOf_17 rfl (lv_at hl 1 rfl) ?_
      obtain ⟨c3, h⟩ := ck_e h
      refine va_iald (f := (σ 25)) hx hb hKK.1 hz.1 25 0 rfl rfl c3 dX2_addressOf_18 ?_
      refine lv_goto (tgt := 23) hx hb dX2_addressOf_19 (by decide) ?_
      exact rt ((σ 25) (Int32.toNatClampNeg x1)) σ 23 _ _ _ dX2_addressOf_23 h hz
def fX4_size_i (σ : St)  : Option (Int32) :=
  some (σ 56 0)
abbrev rmX4_size_i : Room := { frames := 0, cells := 0, slots := 0, locals := 0 }
set_option maxHeartbeats 4000000 in
set_option maxRecDepth 100000 in
theorem KX4_size_i {l : Launch} {dC : Nat → ClassId} {dI : Nat → Nat → Nat} {cI cZ : ClassId} {a : Nat → Nat} {σ : St}  {r : Int32} (hok : okA 30 a) (h : fX4_size_i σ  = some r) (sz : Nat) : Met l yX4_size wsX4_size rmX4_size_i (Pz (dC, dI) cI cZ (wdC cI cZ a σ) sz [.ref (a 12)]) (Qzi (dC, dI) 30 a (wdC cI cZ a σ) sz r) 0 0 (aN 30 a sz) := by
  refine Met.ofW (cc := cX4_size) (maxL := 1) (ret := (some .int)) (by decide) rfl ?_
  intro p e s m args below meth c s₁ B hml hv
  obtain ⟨hav, hsz, hP, hKK⟩ := hv
  have hx := B.exec
  have hb := B.bytes
  have hr := B.returns
  have hts := atoms_spec (ws := wsX4_size) B.pre
  have hown : s.vm.findClass RX4 = some m.cls := findClass_of_methodNamed B.named
  have hlocks := B.notSynchronized
  have CF : CallFix p m c cX4_size 1 s args wsX4_size RX4 := ⟨hx, hb, hml, hown, hts⟩
  have hz : zz (dC, dI) 30 a (wdC cI cZ a σ) s.heap s.heap [] := ⟨hP, va_S.rf⟩
  have hl := lv_entry [.ref (a 12)] (n := 1) (Nat.le_of_ble_eq_true rfl)
  have hen : entryFrame m args 1 = entryFrame m ([.ref (a 12)] : List Value).toArray 1 := by rw [hav]
  rw [hen, lg_entry_eq]
  generalize (lg_sl [.ref (a 12)] ++ List.replicate (1 - (lg_sl [.ref (a 12)]).length) Slot.unset).toArray = ls at hl ⊢
  have hl : lv_has ls 1 [(0, .ref (a 12))] := hl
  have eR : (headSpec wsX4_size rmX4_size_i).room = rmX4_size_i := rfl
  rw [eR]
  have rt : ∀ (v : Int32) (t : St) (pc : Nat) (H : Heap) (locs : List Loc) (ls : Array Slot), decode cX4_size pc = .ok (.ireturn, 1) → some v = some r → zz (dC, dI) 30 a (wdC cI cZ a σ) s.heap H locs → W p l e rmX4_size_i s m args below meth c H locs 0 0 (MQ below (Qzi (dC, dI) 30 a (wdC cI cZ a σ) sz r) args s 0 0 (aN 30 a sz)) (F0 m pc ls [.int v]) := by
    intro v t pc H locs ls hd h hz
    cases h
    exact ziret hsz hx hb hr hlocks hz hd
  generalize (MQ below (Qzi (dC, dI) 30 a (wdC cI cZ a σ) sz r) args s 0 0 (aN 30 a sz)) = Q at rt ⊢
  unfold fX4_size_i at h
  refine lv_aload_n hx hb dX4_size_0 rfl (lv_at hl 0 rfl) ?_
  refine va_get (v := .int (σ 56 0)) hx hb hts inX4_size_X4 hown hKK.1 hz.1 12 rfl rfl 5 (by decide) (hts _ (List.mem_of_getElem? (i := 1) rfl)) (fun _ h9 => h9) rfl dX4_size_1 ?_
  exact rt (σ 56 0) σ 4 _ _ _ dX4_size_4 h hz
def fX4_size_c (σ : St)  : Option (Int32) :=
  some (σ 57 0)
abbrev rmX4_size_c : Room := { frames := 0, cells := 0, slots := 0, locals := 0 }
set_option maxHeartbeats 4000000 in
set_option maxRecDepth 100000 in
theorem KX4_size_c {l : Launch} {dC : Nat → ClassId} {dI : Nat → Nat → Nat} {cI cZ : ClassId} {a : Nat → Nat} {σ : St}  {r : Int32} (hok : okA 30 a) (h : fX4_size_c σ  = some r) (sz : Nat) : Met l yX4_size wsX4_size rmX4_size_c (Pz (dC, dI) cI cZ (wdC cI cZ a σ) sz [.ref (a 18)]) (Qzi (dC, dI) 30 a (wdC cI cZ a σ) sz r) 0 0 (aN 30 a sz) := by
  refine Met.ofW (cc := cX4_size) (maxL := 1) (ret := (some .int)) (by decide) rfl ?_
  intro p e s m args below meth c s₁ B hml hv
  obtain ⟨hav, hsz, hP, hKK⟩ := hv
  have hx := B.exec
  have hb := B.bytes
  have hr := B.returns
  have hts := atoms_spec (ws := wsX4_size) B.pre
  have hown : s.vm.findClass RX4 = some m.cls := findClass_of_methodNamed B.named
  have hlocks := B.notSynchronized
  have CF : CallFix p m c cX4_size 1 s args wsX4_size RX4 := ⟨hx, hb, hml, hown, hts⟩
  have hz : zz (dC, dI) 30 a (wdC cI cZ a σ) s.heap s.heap [] := ⟨hP, va_S.rf⟩
  have hl := lv_entry [.ref (a 18)] (n := 1) (Nat.le_of_ble_eq_true rfl)
  have hen : entryFrame m args 1 = entryFrame m ([.ref (a 18)] : List Value).toArray 1 := by rw [hav]
  rw [hen, lg_entry_eq]
  generalize (lg_sl [.ref (a 18)] ++ List.replicate (1 - (lg_sl [.ref (a 18)]).length) Slot.unset).toArray = ls at hl ⊢
  have hl : lv_has ls 1 [(0, .ref (a 18))] := hl
  have eR : (headSpec wsX4_size rmX4_size_c).room = rmX4_size_c := rfl
  rw [eR]
  have rt : ∀ (v : Int32) (t : St) (pc : Nat) (H : Heap) (locs : List Loc) (ls : Array Slot), decode cX4_size pc = .ok (.ireturn, 1) → some v = some r → zz (dC, dI) 30 a (wdC cI cZ a σ) s.heap H locs → W p l e rmX4_size_c s m args below meth c H locs 0 0 (MQ below (Qzi (dC, dI) 30 a (wdC cI cZ a σ) sz r) args s 0 0 (aN 30 a sz)) (F0 m pc ls [.int v]) := by
    intro v t pc H locs ls hd h hz
    cases h
    exact ziret hsz hx hb hr hlocks hz hd
  generalize (MQ below (Qzi (dC, dI) 30 a (wdC cI cZ a σ) sz r) args s 0 0 (aN 30 a sz)) = Q at rt ⊢
  unfold fX4_size_c at h
  refine lv_aload_n hx hb dX4_size_0 rfl (lv_at hl 0 rfl) ?_
  refine va_get (v := .int (σ 57 0)) hx hb hts inX4_size_X4 hown hKK.1 hz.1 18 rfl rfl 5 (by decide) (hts _ (List.mem_of_getElem? (i := 1) rfl)) (fun _ h9 => h9) rfl dX4_size_1 ?_
  exact rt (σ 57 0) σ 4 _ _ _ dX4_size_4 h hz
def fX4_has_i (σ : St) (x1 : Int32) : Option (Int32) :=
  (if x1 < 0 then (some (0 : Int32)) else ((if (σ 56 0) ≤ x1 then (some (0 : Int32)) else ((if (12 : Int32) ≤ x1 then (some (0 : Int32)) else (some (1 : Int32)))))))
abbrev rmX4_has_i : Room := { frames := 0, cells := 0, slots := 0, locals := 0 }
set_option maxHeartbeats 4000000 in
set_option maxRecDepth 100000 in
theorem KX4_has_i {l : Launch} {dC : Nat → ClassId} {dI : Nat → Nat → Nat} {cI cZ : ClassId} {a : Nat → Nat} {σ : St} {x1 : Int32} {r : Int32} (hok : okA 30 a) (h : fX4_has_i σ x1 = some r) (sz : Nat) : Met l yX4_has wsX4_has rmX4_has_i (Pz (dC, dI) cI cZ (wdC cI cZ a σ) sz [.ref (a 12), .int x1]) (Qzi (dC, dI) 30 a (wdC cI cZ a σ) sz r) 0 0 (aN 30 a sz) := by
  refine Met.ofW (cc := cX4_has) (maxL := 2) (ret := (some .boolean)) (by decide) rfl ?_
  intro p e s m args below meth c s₁ B hml hv
  obtain ⟨hav, hsz, hP, hKK⟩ := hv
  have hx := B.exec
  have hb := B.bytes
  have hr := B.returns
  have hts := atoms_spec (ws := wsX4_has) B.pre
  have hown : s.vm.findClass RX4 = some m.cls := findClass_of_methodNamed B.named
  have hlocks := B.notSynchronized
  have CF : CallFix p m c cX4_has 2 s args wsX4_has RX4 := ⟨hx, hb, hml, hown, hts⟩
  have hz : zz (dC, dI) 30 a (wdC cI cZ a σ) s.heap s.heap [] := ⟨hP, va_S.rf⟩
  have hl := lv_entry [.ref (a 12), .int x1] (n := 2) (Nat.le_of_ble_eq_true rfl)
  have hen : entryFrame m args 2 = entryFrame m ([.ref (a 12), .int x1] : List Value).toArray 2 := by rw [hav]
  rw [hen, lg_entry_eq]
  generalize (lg_sl [.ref (a 12), .int x1] ++ List.replicate (2 - (lg_sl [.ref (a 12), .int x1]).length) Slot.unset).toArray = ls at hl ⊢
  have hl : lv_has ls 2 [(0, .ref (a 12)), (1, .int x1)] := hl
  have eR : (headSpec wsX4_has rmX4_has_i).room = rmX4_has_i := rfl
  rw [eR]
  have rt : ∀ (v : Int32) (t : St) (pc : Nat) (H : Heap) (locs : List Loc) (ls : Array Slot), decode cX4_has pc = .ok (.ireturn, 1) → some v = some r → zz (dC, dI) 30 a (wdC cI cZ a σ) s.heap H locs → (v = 0 ∨ v = 1) → W p l e rmX4_has_i s m args below meth c H locs 0 0 (MQ below (Qzi (dC, dI) 30 a (wdC cI cZ a σ) sz r) args s 0 0 (aN 30 a sz)) (F0 m pc ls [.int v]) := by
    intro v t pc H locs ls hd h hz hv
    cases h
    exact zzret hsz hx hb hr hlocks hv hz hd
  generalize (MQ below (Qzi (dC, dI) 30 a (wdC cI cZ a σ) sz r) args s 0 0 (aN 30 a sz)) = Q at rt ⊢
  unfold fX4_has_i at h
  refine lv_iload_n hx hb dX4_has_0 rfl (lv_at hl 1 rfl) ?_
  refine lv_if_lt (tgt := 25) hx hb dX4_has_1 (by decide) (fun c1 => ?_) (fun c1 => ?_)
  · replace h := ite_t c1 h
    refine lv_iconst (v := (0 : Int32)) hx hb dX4_has_25 (by decide) ?_
    exact rt (0 : Int32) σ 26 _ _ _ dX4_has_26 h hz (Or.inl rfl)
  · replace h := ite_f c1 h
    refine lv_iload_n hx hb dX4_has_4 rfl (lv_at hl 1 rfl) ?_
    refine lv_aload_n hx hb dX4_has_5 rfl (lv_at hl 0 rfl) ?_
    refine va_get (v := .int (σ 56 0)) hx hb hts inX4_has_X4 hown hKK.1 hz.1 12 rfl rfl 5 (by decide) (hts _ (List.mem_of_getElem? (i := 1) rfl)) (fun _ h9 => h9) rfl dX4_has_6 ?_
    refine lv_icmp_ge (tgt := 25) hx hb dX4_has_9 (by decide) (fun c2 => ?_) (fun c2 => ?_)
    · replace h := ite_t c2 h
      refine lv_iconst (v := (0 : Int32)) hx hb dX4_has_25 (by decide) ?_
      exact rt (0 : Int32) σ 26 _ _ _ dX4_has_26 h hz (Or.inl rfl)
    · replace h := ite_f c2 h
      refine lv_iload_n hx hb dX4_has_12 rfl (lv_at hl 1 rfl) ?_
      refine lv_aload_n hx hb dX4_has_13 rfl (lv_at hl 0 rfl) ?_
      refine va_get (v := .ref (a 13)) hx hb hts inX4_has_X4 hown hKK.1 hz.1 12 rfl rfl 0 (by decide) (hts _ (List.mem_of_getElem? (i := 2) rfl)) (fun _ h9 => h9) rfl dX4_has_14 ?_
      refine va_alen (v := (12 : Int32)) hx hb hKK.1 hz.1 13 0 rfl rfl rfl dX4_has_17 ?_
      refine lv_icmp_ge (tgt := 25) hx hb dX4_has_18 (by decide) (fun c3 => ?_) (fun c3 => ?_)
      · replace h := ite_t c3 h
        refine lv_iconst (v := (0 : Int32)) hx hb dX4_has_25 (by decide) ?_
        exact rt (0 : Int32) σ 26 _ _ _ dX4_has_26 h hz (Or.inl rfl)
      · replace h := ite_f c3 h
        refine lv_iconst (v := (1 : Int32)) hx hb dX4_has_21 (by decide) ?_
        refine lv_goto (tgt := 26) hx hb dX4_has_22 (by decide) ?_
        exact rt (1 : Int32) σ 26 _ _ _ dX4_has_26 h hz (Or.inr rfl)
def fX4_has_c (σ : St) (x1 : Int32) : Option (Int32) :=
  (if x1 < 0 then (some (0 : Int32)) else ((if (σ 57 0) ≤ x1 then (some (0 : Int32)) else ((if (16 : Int32) ≤ x1 then (some (0 : Int32)) else (some (1 : Int32)))))))
abbrev rmX4_has_c : Room := { frames := 0, cells := 0, slots := 0, locals := 0 }
set_option maxHeartbeats 4000000 in
set_option maxRecDepth 100000 in
theorem KX4_has_c {l : Launch} {dC : Nat → ClassId} {dI : Nat → Nat → Nat} {cI cZ : ClassId} {a : Nat → Nat} {σ : St} {x1 : Int32} {r : Int32} (hok : okA 30 a) (h : fX4_has_c σ x1 = some r) (sz : Nat) : Met l yX4_has wsX4_has rmX4_has_c (Pz (dC, dI) cI cZ (wdC cI cZ a σ) sz [.ref (a 18), .int x1]) (Qzi (dC, dI) 30 a (wdC cI cZ a σ) sz r) 0 0 (aN 30 a sz) := by
  refine Met.ofW (cc := cX4_has) (maxL := 2) (ret := (some .boolean)) (by decide) rfl ?_
  intro p e s m args below meth c s₁ B hml hv
  obtain ⟨hav, hsz, hP, hKK⟩ := hv
  have hx := B.exec
  have hb := B.bytes
  have hr := B.returns
  have hts := atoms_spec (ws := wsX4_has) B.pre
  have hown : s.vm.findClass RX4 = some m.cls := findClass_of_methodNamed B.named
  have hlocks := B.notSynchronized
  have CF : CallFix p m c cX4_has 2 s args wsX4_has RX4 := ⟨hx, hb, hml, hown, hts⟩
  have hz : zz (dC, dI) 30 a (wdC cI cZ a σ) s.heap s.heap [] := ⟨hP, va_S.rf⟩
  have hl := lv_entry [.ref (a 18), .int x1] (n := 2) (Nat.le_of_ble_eq_true rfl)
  have hen : entryFrame m args 2 = entryFrame m ([.ref (a 18), .int x1] : List Value).toArray 2 := by rw [hav]
  rw [hen, lg_entry_eq]
  generalize (lg_sl [.ref (a 18), .int x1] ++ List.replicate (2 - (lg_sl [.ref (a 18), .int x1]).length) Slot.unset).toArray = ls at hl ⊢
  have hl : lv_has ls 2 [(0, .ref (a 18)), (1, .int x1)] := hl
  have eR : (headSpec wsX4_has rmX4_has_c).room = rmX4_has_c := rfl
  rw [eR]
  have rt : ∀ (v : Int32) (t : St) (pc : Nat) (H : Heap) (locs : List Loc) (ls : Array Slot), decode cX4_has pc = .ok (.ireturn, 1) → some v = some r → zz (dC, dI) 30 a (wdC cI cZ a σ) s.heap H locs → (v = 0 ∨ v = 1) → W p l e rmX4_has_c s m args below meth c H locs 0 0 (MQ below (Qzi (dC, dI) 30 a (wdC cI cZ a σ) sz r) args s 0 0 (aN 30 a sz)) (F0 m pc ls [.int v]) := by
    intro v t pc H locs ls hd h hz hv
    cases h
    exact zzret hsz hx hb hr hlocks hv hz hd
  generalize (MQ below (Qzi (dC, dI) 30 a (wdC cI cZ a σ) sz r) args s 0 0 (aN 30 a sz)) = Q at rt ⊢
  unfold fX4_has_c at h
  refine lv_iload_n hx hb dX4_has_0 rfl (lv_at hl 1 rfl) ?_
  refine lv_if_lt (tgt := 25) hx hb dX4_has_1 (by decide) (fun c1 => ?_) (fun c1 => ?_)
  · replace h := ite_t c1 h
    refine lv_iconst (v := (0 : Int32)) hx hb dX4_has_25 (by decide) ?_
    exact rt (0 : Int32) σ 26 _ _ _ dX4_has_26 h hz (Or.inl rfl)
  · replace h := ite_f c1 h
    refine lv_iload_n hx hb dX4_has_4 rfl (lv_at hl 1 rfl) ?_
    refine lv_aload_n hx hb dX4_has_5 rfl (lv_at hl 0 rfl) ?_
    refine va_get (v := .int (σ 57 0)) hx hb hts inX4_has_X4 hown hKK.1 hz.1 18 rfl rfl 5 (by decide) (hts _ (List.mem_of_getElem? (i := 1) rfl)) (fun _ h9 => h9) rfl dX4_has_6 ?_
    refine lv_icmp_ge (tgt := 25) hx hb dX4_has_9 (by decide) (fun c2 => ?_) (fun c2 => ?_)
    · replace h := ite_t c2 h
      refine lv_iconst (v := (0 : Int32)) hx hb dX4_has_25 (by decide) ?_
      exact rt (0 : Int32) σ 26 _ _ _ dX4_has_26 h hz (Or.inl rfl)
    · replace h := ite_f c2 h
      refine lv_iload_n hx hb dX4_has_12 rfl (lv_at hl 1 rfl) ?_
      refine lv_aload_n hx hb dX4_has_13 rfl (lv_at hl 0 rfl) ?_
      refine va_get (v := .ref (a 19)) hx hb hts inX4_has_X4 hown hKK.1 hz.1 18 rfl rfl 0 (by decide) (hts _ (List.mem_of_getElem? (i := 2) rfl)) (fun _ h9 => h9) rfl dX4_has_14 ?_
      refine va_alen (v := (16 : Int32)) hx hb hKK.1 hz.1 19 0 rfl rfl rfl dX4_has_17 ?_
      refine lv_icmp_ge (tgt := 25) hx hb dX4_has_18 (by decide) (fun c3 => ?_) (fun c3 => ?_)
      · replace h := ite_t c3 h
        refine lv_iconst (v := (0 : Int32)) hx hb dX4_has_25 (by decide) ?_
        exact rt (0 : Int32) σ 26 _ _ _ dX4_has_26 h hz (Or.inl rfl)
      · replace h := ite_f c3 h
        refine lv_iconst (v := (1 : Int32)) hx hb dX4_has_21 (by decide) ?_
        refine lv_goto (tgt := 26) hx hb dX4_has_22 (by decide) ?_
        exact rt (1 : Int32) σ 26 _ _ _ dX4_has_26 h hz (Or.inr rfl)
def fX4_addressOf_i (σ : St) (x1 : Int32) : Option (Int32) :=
  (bd1 (fX4_has_i σ x1) fun r1 => (if r1 = 0 then (some (-1 : Int32)) else ((ck (¬ (x1 < 0 ∨ 12 ≤ Int32.toNatClampNeg x1)) <| (bd1 (fX4_isItem σ ((σ 14) (Int32.toNatClampNeg x1))) fun r6 => (if r6 = 0 then (some (-1 : Int32)) else ((ck (¬ (((σ 14) (Int32.toNatClampNeg x1)) < 0 ∨ 24 ≤ Int32.toNatClampNeg ((σ 14) (Int32.toNatClampNeg x1)))) <| (ck (¬ (x1 < 0 ∨ 12 ≤ Int32.toNatClampNeg x1)) <| some (((σ 17) (Int32.toNatClampNeg ((σ 14) (Int32.toNatClampNeg x1)))) + ((4 : Int32) * ((σ 15) (Int32.toNatClampNeg x1)))))))))))))
abbrev rmX4_addressOf_i : Room := { frames := 1, cells := 0, slots := 0, locals := 21 }
set_option maxHeartbeats 4000000 in
set_option maxRecDepth 100000 in
theorem KX4_addressOf_i {l : Launch} {dC : Nat → ClassId} {dI : Nat → Nat → Nat} {cI cZ : ClassId} {a : Nat → Nat} {σ : St} {x1 : Int32} {r : Int32} (hok : okA 30 a) (h : fX4_addressOf_i σ x1 = some r) (sz : Nat) : Met l yX4_addressOf wsX4_addressOf rmX4_addressOf_i (Pz (dC, dI) cI cZ (wdC cI cZ a σ) sz [.ref (a 12), .int x1]) (Qzi (dC, dI) 30 a (wdC cI cZ a σ) sz r) 0 0 (aN 30 a sz) := by
  refine Met.ofW (cc := cX4_addressOf) (maxL := 3) (ret := (some .int)) (by decide) rfl ?_
  intro p e s m args below meth c s₁ B hml hv
  obtain ⟨hav, hsz, hP, hKK⟩ := hv
  have hx := B.exec
  have hb := B.bytes
  have hr := B.returns
  have hts := atoms_spec (ws := wsX4_addressOf) B.pre
  have hown : s.vm.findClass RX4 = some m.cls := findClass_of_methodNamed B.named
  have hlocks := B.notSynchronized
  have CF : CallFix p m c cX4_addressOf 3 s args wsX4_addressOf RX4 := ⟨hx, hb, hml, hown, hts⟩
  have hz : zz (dC, dI) 30 a (wdC cI cZ a σ) s.heap s.heap [] := ⟨hP, va_S.rf⟩
  have hl := lv_entry [.ref (a 12), .int x1] (n := 3) (Nat.le_of_ble_eq_true rfl)
  have hen : entryFrame m args 3 = entryFrame m ([.ref (a 12), .int x1] : List Value).toArray 3 := by rw [hav]
  rw [hen, lg_entry_eq]
  generalize (lg_sl [.ref (a 12), .int x1] ++ List.replicate (3 - (lg_sl [.ref (a 12), .int x1]).length) Slot.unset).toArray = ls at hl ⊢
  have hl : lv_has ls 3 [(0, .ref (a 12)), (1, .int x1)] := hl
  have eR : (headSpec wsX4_addressOf rmX4_addressOf_i).room = rmX4_addressOf_i := rfl
  rw [eR]
  have rt : ∀ (v : Int32) (t : St) (pc : Nat) (H : Heap) (locs : List Loc) (ls : Array Slot), decode cX4_addressOf pc = .ok (.ireturn, 1) → some v = some r → zz (dC, dI) 30 a (wdC cI cZ a σ) s.heap H locs → W p l e rmX4_addressOf_i s m args below meth c H locs 0 0 (MQ below (Qzi (dC, dI) 30 a (wdC cI cZ a σ) sz r) args s 0 0 (aN 30 a sz)) (F0 m pc ls [.int v]) := by
    intro v t pc H locs ls hd h hz
    cases h
    exact ziret hsz hx hb hr hlocks hz hd
  generalize (MQ below (Qzi (dC, dI) 30 a (wdC cI cZ a σ) sz r) args s 0 0 (aN 30 a sz)) = Q at rt ⊢
  unfold fX4_addressOf_i at h
  refine lv_aload_n hx hb dX4_addressOf_0 rfl (lv_at hl 0 rfl) ?_
  refine lv_iload_n hx hb dX4_addressOf_1 rfl (lv_at hl 1 rfl) ?_
  obtain ⟨r1, e3, h⟩ := bd1_e h
  refine zcallVi (As := [.int x1]) (rest := []) CF hKK (KX4_has_i (dC := dC) (dI := dI) (cI := cI) (cZ := cZ) (a := a) hok e3) (cwV 1 hts gX4_addressOf_X4_has rfl rfl rfl cdX4_has ⟨Nat.le_of_ble_eq_true rfl, Nat.le_of_ble_eq_true rfl⟩) 12 4 rfl rfl hz rfl hl.1 rfl (Nat.le_of_ble_eq_true rfl) dX4_addressOf_2 ⟨Nat.le_refl _, Nat.le_refl _⟩ (fun H locs hz => ?_)
  refine lv_if_ne (tgt := 10) hx hb dX4_addressOf_5 (by decide) (fun c4 => ?_) (fun c4 => ?_)
  · replace h := ite_f c4 h
    refine lv_aload_n hx hb dX4_addressOf_10 rfl (lv_at hl 0 rfl) ?_
    refine va_get (v := .ref (a 14)) hx hb hts inX4_addressOf_X4 hown hKK.1 hz.1 12 rfl rfl 1 (by decide) (hts _ (List.mem_of_getElem? (i := 1) rfl)) (fun _ h9 => h9) rfl dX4_addressOf_11 ?_
    refine lv_iload_n hx hb dX4_addressOf_14 rfl (lv_at hl 1 rfl) ?_
    obtain ⟨c5, h⟩ := ck_e h
    refine va_iald (f := (σ 14)) hx hb hKK.1 hz.1 14 0 rfl rfl c5 dX4_addressOf_15 ?_
    refine lv_istore_n (lv' := [(2, .int ((σ 14) (Int32.toNatClampNeg x1))), (0, .ref (a 12)), (1, .int x1)]) hx hb dX4_addressOf_16 rfl hl (by decide) rfl (fun ls hl => ?_)
    refine lv_iload_n hx hb dX4_addressOf_17 rfl (lv_at hl 0 rfl) ?_
    obtain ⟨r6, e8, h⟩ := bd1_e h
    refine zcallSi (As := [.int ((σ 14) (Int32.toNatClampNeg x1))]) (rest := []) CF hKK (KX4_isItem (dC := dC) (dI := dI) (cI := cI) (cZ := cZ) (a := a) hok e8) (va_cwS 1 hts gX4_addressOf_X4_isItem rfl rfl rfl cdX4_isItem.2 ⟨Nat.le_of_ble_eq_true rfl, Nat.le_of_ble_eq_true rfl⟩) hz rfl hl.1 rfl (Nat.le_of_ble_eq_true rfl) dX4_addressOf_18 ⟨Nat.le_refl _, Nat.le_refl _⟩ (fun H locs hz => ?_)
    refine lv_if_eq (tgt := 42) hx hb dX4_addressOf_21 (by decide) (fun c9 => ?_) (fun c9 => ?_)
    · replace h := ite_t c9 h
      refine lv_iconst (v := (-1 : Int32)) hx hb dX4_addressOf_42 (by decide) ?_
      exact rt (-1 : Int32) σ 43 _ _ _ dX4_addressOf_43 h hz
    · replace h := ite_f c9 h
      refine lv_aload_n hx hb dX4_addressOf_24 rfl (lv_at hl 1 rfl) ?_
      refine va_get (v := .ref (a 17)) hx hb hts inX4_addressOf_X4 hown hKK.1 hz.1 12 rfl rfl 4 (by decide) (hts _ (List.mem_of_getElem? (i := 2) rfl)) (fun _ h9 => h9) rfl dX4_addressOf_25 ?_
      refine lv_iload_n hx hb dX4_addressOf_28 rfl (lv_at hl 0 rfl) ?_
      obtain ⟨c10, h⟩ := ck_e h
      refine va_iald (f := (σ 17)) hx hb hKK.1 hz.1 17 0 rfl rfl c10 dX4_addressOf_29 ?_
      refine lv_iconst (v := (4 : Int32)) hx hb dX4_addressOf_30 (by decide) ?_
      refine lv_aload_n hx hb dX4_addressOf_31 rfl (lv_at hl 1 rfl) ?_
      refine va_get (v := .ref (a 15)) hx hb hts inX4_addressOf_X4 hown hKK.1 hz.1 12 rfl rfl 2 (by decide) (hts _ (List.mem_of_getElem? (i := 3) rfl)) (fun _ h9 => h9) rfl dX4_addressOf_32 ?_
      refine lv_iload_n hx hb dX4_addressOf_35 rfl (lv_at hl 2 rfl) ?_
      obtain ⟨c11, h⟩ := ck_e h
      refine va_iald (f := (σ 15)) hx hb hKK.1 hz.1 15 0 rfl rfl c11 dX4_addressOf_36 ?_
      refine lv_imul hx hb dX4_addressOf_37 ?_
      refine lv_iadd hx hb dX4_addressOf_38 ?_
      refine lv_goto (tgt := 43) hx hb dX4_addressOf_39 (by decide) ?_
      exact rt (((σ 17) (Int32.toNatClampNeg ((σ 14) (Int32.toNatClampNeg x1)))) + ((4 : Int32) * ((σ 15) (Int32.toNatClampNeg x1)))) σ 43 _ _ _ dX4_addressOf_43 h hz
  · replace h := ite_t c4 h
    refine lv_iconst (v := (-1 : Int32)) hx hb dX4_addressOf_8 (by decide) ?_
    exact rt (-1 : Int32) σ 9 _ _ _ dX4_addressOf_9 h hz
def fX4_addressOf_c (σ : St) (x1 : Int32) : Option (Int32) :=
  (bd1 (fX4_has_c σ x1) fun r1 => (if r1 = 0 then (some (-1 : Int32)) else ((ck (¬ (x1 < 0 ∨ 16 ≤ Int32.toNatClampNeg x1)) <| (bd1 (fX4_isItem σ ((σ 20) (Int32.toNatClampNeg x1))) fun r6 => (if r6 = 0 then (some (-1 : Int32)) else ((ck (¬ (((σ 20) (Int32.toNatClampNeg x1)) < 0 ∨ 24 ≤ Int32.toNatClampNeg ((σ 20) (Int32.toNatClampNeg x1)))) <| (ck (¬ (x1 < 0 ∨ 16 ≤ Int32.toNatClampNeg x1)) <| some (((σ 23) (Int32.toNatClampNeg ((σ 20) (Int32.toNatClampNeg x1)))) + ((4 : Int32) * ((σ 21) (Int32.toNatClampNeg x1)))))))))))))
abbrev rmX4_addressOf_c : Room := { frames := 1, cells := 0, slots := 0, locals := 21 }
set_option maxHeartbeats 4000000 in
set_option maxRecDepth 100000 in
theorem KX4_addressOf_c {l : Launch} {dC : Nat → ClassId} {dI : Nat → Nat → Nat} {cI cZ : ClassId} {a : Nat → Nat} {σ : St} {x1 : Int32} {r : Int32} (hok : okA 30 a) (h : fX4_addressOf_c σ x1 = some r) (sz : Nat) : Met l yX4_addressOf wsX4_addressOf rmX4_addressOf_c (Pz (dC, dI) cI cZ (wdC cI cZ a σ) sz [.ref (a 18), .int x1]) (Qzi (dC, dI) 30 a (wdC cI cZ a σ) sz r) 0 0 (aN 30 a sz) := by
  refine Met.ofW (cc := cX4_addressOf) (maxL := 3) (ret := (some .int)) (by decide) rfl ?_
  intro p e s m args below meth c s₁ B hml hv
  obtain ⟨hav, hsz, hP, hKK⟩ := hv
  have hx := B.exec
  have hb := B.bytes
  have hr := B.returns
  have hts := atoms_spec (ws := wsX4_addressOf) B.pre
  have hown : s.vm.findClass RX4 = some m.cls := findClass_of_methodNamed B.named
  have hlocks := B.notSynchronized
  have CF : CallFix p m c cX4_addressOf 3 s args wsX4_addressOf RX4 := ⟨hx, hb, hml, hown, hts⟩
  have hz : zz (dC, dI) 30 a (wdC cI cZ a σ) s.heap s.heap [] := ⟨hP, va_S.rf⟩
  have hl := lv_entry [.ref (a 18), .int x1] (n := 3) (Nat.le_of_ble_eq_true rfl)
  have hen : entryFrame m args 3 = entryFrame m ([.ref (a 18), .int x1] : List Value).toArray 3 := by rw [hav]
  rw [hen, lg_entry_eq]
  generalize (lg_sl [.ref (a 18), .int x1] ++ List.replicate (3 - (lg_sl [.ref (a 18), .int x1]).length) Slot.unset).toArray = ls at hl ⊢
  have hl : lv_has ls 3 [(0, .ref (a 18)), (1, .int x1)] := hl
  have eR : (headSpec wsX4_addressOf rmX4_addressOf_c).room = rmX4_addressOf_c := rfl
  rw [eR]
  have rt : ∀ (v : Int32) (t : St) (pc : Nat) (H : Heap) (locs : List Loc) (ls : Array Slot), decode cX4_addressOf pc = .ok (.ireturn, 1) → some v = some r → zz (dC, dI) 30 a (wdC cI cZ a σ) s.heap H locs → W p l e rmX4_addressOf_c s m args below meth c H locs 0 0 (MQ below (Qzi (dC, dI) 30 a (wdC cI cZ a σ) sz r) args s 0 0 (aN 30 a sz)) (F0 m pc ls [.int v]) := by
    intro v t pc H locs ls hd h hz
    cases h
    exact ziret hsz hx hb hr hlocks hz hd
  generalize (MQ below (Qzi (dC, dI) 30 a (wdC cI cZ a σ) sz r) args s 0 0 (aN 30 a sz)) = Q at rt ⊢
  unfold fX4_addressOf_c at h
  refine lv_aload_n hx hb dX4_addressOf_0 rfl (lv_at hl 0 rfl) ?_
  refine lv_iload_n hx hb dX4_addressOf_1 rfl (lv_at hl 1 rfl) ?_
  obtain ⟨r1, e3, h⟩ := bd1_e h
  refine zcallVi (As := [.int x1]) (rest := []) CF hKK (KX4_has_c (dC := dC) (dI := dI) (cI := cI) (cZ := cZ) (a := a) hok e3) (cwV 1 hts gX4_addressOf_X4_has rfl rfl rfl cdX4_has ⟨Nat.le_of_ble_eq_true rfl, Nat.le_of_ble_eq_true rfl⟩) 18 4 rfl rfl hz rfl hl.1 rfl (Nat.le_of_ble_eq_true rfl) dX4_addressOf_2 ⟨Nat.le_refl _, Nat.le_refl _⟩ (fun H locs hz => ?_)
  refine lv_if_ne (tgt := 10) hx hb dX4_addressOf_5 (by decide) (fun c4 => ?_) (fun c4 => ?_)
  · replace h := ite_f c4 h
    refine lv_aload_n hx hb dX4_addressOf_10 rfl (lv_at hl 0 rfl) ?_
    refine va_get (v := .ref (a 20)) hx hb hts inX4_addressOf_X4 hown hKK.1 hz.1 18 rfl rfl 1 (by decide) (hts _ (List.mem_of_getElem? (i := 1) rfl)) (fun _ h9 => h9) rfl dX4_addressOf_11 ?_
    refine lv_iload_n hx hb dX4_addressOf_14 rfl (lv_at hl 1 rfl) ?_
    obtain ⟨c5, h⟩ := ck_e h
    refine va_iald (f := (σ 20)) hx hb hKK.1 hz.1 20 0 rfl rfl c5 dX4_addressOf_15 ?_
    refine lv_istore_n (lv' := [(2, .int ((σ 20) (Int32.toNatClampNeg x1))), (0, .ref (a 18)), (1, .int x1)]) hx hb dX4_addressOf_16 rfl hl (by decide) rfl (fun ls hl => ?_)
    refine lv_iload_n hx hb dX4_addressOf_17 rfl (lv_at hl 0 rfl) ?_
    obtain ⟨r6, e8, h⟩ := bd1_e h
    refine zcallSi (As := [.int ((σ 20) (Int32.toNatClampNeg x1))]) (rest := []) CF hKK (KX4_isItem (dC := dC) (dI := dI) (cI := cI) (cZ := cZ) (a := a) hok e8) (va_cwS 1 hts gX4_addressOf_X4_isItem rfl rfl rfl cdX4_isItem.2 ⟨Nat.le_of_ble_eq_true rfl, Nat.le_of_ble_eq_true rfl⟩) hz rfl hl.1 rfl (Nat.le_of_ble_eq_true rfl) dX4_addressOf_18 ⟨Nat.le_refl _, Nat.le_refl _⟩ (fun H locs hz => ?_)
    refine lv_if_eq (tgt := 42) hx hb dX4_addressOf_21 (by decide) (fun c9 => ?_) (fun c9 => ?_)
    · replace h := ite_t c9 h
      refine lv_iconst (v := (-1 : Int32)) hx hb dX4_addressOf_42 (by decide) ?_
      exact rt (-1 : Int32) σ 43 _ _ _ dX4_addressOf_43 h hz
    · replace h := ite_f c9 h
      refine lv_aload_n hx hb dX4_addressOf_24 rfl (lv_at hl 1 rfl) ?_
      refine va_get (v := .ref (a 23)) hx hb hts inX4_addressOf_X4 hown hKK.1 hz.1 18 rfl rfl 4 (by decide) (hts _ (List.mem_of_getElem? (i := 2) rfl)) (fun _ h9 => h9) rfl dX4_addressOf_25 ?_
      refine lv_iload_n hx hb dX4_addressOf_28 rfl (lv_at hl 0 rfl) ?_
      obtain ⟨c10, h⟩ := ck_e h
      refine va_iald (f := (σ 23)) hx hb hKK.1 hz.1 23 0 rfl rfl c10 dX4_addressOf_29 ?_
      refine lv_iconst (v := (4 : Int32)) hx hb dX4_addressOf_30 (by decide) ?_
      refine lv_aload_n hx hb dX4_addressOf_31 rfl (lv_at hl 1 rfl) ?_
      refine va_get (v := .ref (a 21)) hx hb hts inX4_addressOf_X4 hown hKK.1 hz.1 18 rfl rfl 2 (by decide) (hts _ (List.mem_of_getElem? (i := 3) rfl)) (fun _ h9 => h9) rfl dX4_addressOf_32 ?_
      refine lv_iload_n hx hb dX4_addressOf_35 rfl (lv_at hl 2 rfl) ?_
      obtain ⟨c11, h⟩ := ck_e h
      refine va_iald (f := (σ 21)) hx hb hKK.1 hz.1 21 0 rfl rfl c11 dX4_addressOf_36 ?_
      refine lv_imul hx hb dX4_addressOf_37 ?_
      refine lv_iadd hx hb dX4_addressOf_38 ?_
      refine lv_goto (tgt := 43) hx hb dX4_addressOf_39 (by decide) ?_
      exact rt (((σ 23) (Int32.toNatClampNeg ((σ 20) (Int32.toNatClampNeg x1)))) + ((4 : Int32) * ((σ 21) (Int32.toNatClampNeg x1)))) σ 43 _ _ _ dX4_addressOf_43 h hz
  · replace h := ite_t c4 h
    refine lv_iconst (v := (-1 : Int32)) hx hb dX4_addressOf_8 (by decide) ?_
    exact rt (-1 : Int32) σ 9 _ _ _ dX4_addressOf_9 h hz
def fX4_nameOf_i (σ : St) (x1 : Int32) : Option (Int32) :=
  (bd1 (fX4_has_i σ x1) fun r1 => (if r1 = 0 then (some (-1 : Int32)) else ((ck (¬ (x1 < 0 ∨ 12 ≤ Int32.toNatClampNeg x1)) <| some ((σ 13) (Int32.toNatClampNeg x1))))))
abbrev rmX4_nameOf_i : Room := { frames := 1, cells := 0, slots := 0, locals := 21 }
set_option maxHeartbeats 4000000 in
set_option maxRecDepth 100000 in
theorem KX4_nameOf_i {l : Launch} {dC : Nat → ClassId} {dI : Nat → Nat → Nat} {cI cZ : ClassId} {a : Nat → Nat} {σ : St} {x1 : Int32} {r : Int32} (hok : okA 30 a) (h : fX4_nameOf_i σ x1 = some r) (sz : Nat) : Met l yX4_nameOf wsX4_nameOf rmX4_nameOf_i (Pz (dC, dI) cI cZ (wdC cI cZ a σ) sz [.ref (a 12), .int x1]) (Qzi (dC, dI) 30 a (wdC cI cZ a σ) sz r) 0 0 (aN 30 a sz) := by
  refine Met.ofW (cc := cX4_nameOf) (maxL := 2) (ret := (some .int)) (by decide) rfl ?_
  intro p e s m args below meth c s₁ B hml hv
  obtain ⟨hav, hsz, hP, hKK⟩ := hv
  have hx := B.exec
  have hb := B.bytes
  have hr := B.returns
  have hts := atoms_spec (ws := wsX4_nameOf) B.pre
  have hown : s.vm.findClass RX4 = some m.cls := findClass_of_methodNamed B.named
  have hlocks := B.notSynchronized
  have CF : CallFix p m c cX4_nameOf 2 s args wsX4_nameOf RX4 := ⟨hx, hb, hml, hown, hts⟩
  have hz : zz (dC, dI) 30 a (wdC cI cZ a σ) s.heap s.heap [] := ⟨hP, va_S.rf⟩
  have hl := lv_entry [.ref (a 12), .int x1] (n := 2) (Nat.le_of_ble_eq_true rfl)
  have hen : entryFrame m args 2 = entryFrame m ([.ref (a 12), .int x1] : List Value).toArray 2 := by rw [hav]
  rw [hen, lg_entry_eq]
  generalize (lg_sl [.ref (a 12), .int x1] ++ List.replicate (2 - (lg_sl [.ref (a 12), .int x1]).length) Slot.unset).toArray = ls at hl ⊢
  have hl : lv_has ls 2 [(0, .ref (a 12)), (1, .int x1)] := hl
  have eR : (headSpec wsX4_nameOf rmX4_nameOf_i).room = rmX4_nameOf_i := rfl
  rw [eR]
  have rt : ∀ (v : Int32) (t : St) (pc : Nat) (H : Heap) (locs : List Loc) (ls : Array Slot), decode cX4_nameOf pc = .ok (.ireturn, 1) → some v = some r → zz (dC, dI) 30 a (wdC cI cZ a σ) s.heap H locs → W p l e rmX4_nameOf_i s m args below meth c H locs 0 0 (MQ below (Qzi (dC, dI) 30 a (wdC cI cZ a σ) sz r) args s 0 0 (aN 30 a sz)) (F0 m pc ls [.int v]) := by
    intro v t pc H locs ls hd h hz
    cases h
    exact ziret hsz hx hb hr hlocks hz hd
  generalize (MQ below (Qzi (dC, dI) 30 a (wdC cI cZ a σ) sz r) args s 0 0 (aN 30 a sz)) = Q at rt ⊢
  unfold fX4_nameOf_i at h
  refine lv_aload_n hx hb dX4_nameOf_0 rfl (lv_at hl 0 rfl) ?_
  refine lv_iload_n hx hb dX4_nameOf_1 rfl (lv_at hl 1 rfl) ?_
  obtain ⟨r1, e3, h⟩ := bd1_e h
  refine zcallVi (As := [.int x1]) (rest := []) CF hKK (KX4_has_i (dC := dC) (dI := dI) (cI := cI) (cZ := cZ) (a := a) hok e3) (cwV 1 hts gX4_nameOf_X4_has rfl rfl rfl cdX4_has ⟨Nat.le_of_ble_eq_true rfl, Nat.le_of_ble_eq_true rfl⟩) 12 4 rfl rfl hz rfl hl.1 rfl (Nat.le_of_ble_eq_true rfl) dX4_nameOf_2 ⟨Nat.le_refl _, Nat.le_refl _⟩ (fun H locs hz => ?_)
  refine lv_if_eq (tgt := 17) hx hb dX4_nameOf_5 (by decide) (fun c4 => ?_) (fun c4 => ?_)
  · replace h := ite_t c4 h
    refine lv_iconst (v := (-1 : Int32)) hx hb dX4_nameOf_17 (by decide) ?_
    exact rt (-1 : Int32) σ 18 _ _ _ dX4_nameOf_18 h hz
  · replace h := ite_f c4 h
    refine lv_aload_n hx hb dX4_nameOf_8 rfl (lv_at hl 0 rfl) ?_
    refine va_get (v := .ref (a 13)) hx hb hts inX4_nameOf_X4 hown hKK.1 hz.1 12 rfl rfl 0 (by decide) (hts _ (List.mem_of_getElem? (i := 1) rfl)) (fun _ h9 => h9) rfl dX4_nameOf_9 ?_
    refine lv_iload_n hx hb dX4_nameOf_12 rfl (lv_at hl 1 rfl) ?_
    obtain ⟨c5, h⟩ := ck_e h
    refine va_iald (f := (σ 13)) hx hb hKK.1 hz.1 13 0 rfl rfl c5 dX4_nameOf_13 ?_
    refine lv_goto (tgt := 18) hx hb dX4_nameOf_14 (by decide) ?_
    exact rt ((σ 13) (Int32.toNatClampNeg x1)) σ 18 _ _ _ dX4_nameOf_18 h hz
def fX4_nameOf_c (σ : St) (x1 : Int32) : Option (Int32) :=
  (bd1 (fX4_has_c σ x1) fun r1 => (if r1 = 0 then (some (-1 : Int32)) else ((ck (¬ (x1 < 0 ∨ 16 ≤ Int32.toNatClampNeg x1)) <| some ((σ 19) (Int32.toNatClampNeg x1))))))
abbrev rmX4_nameOf_c : Room := { frames := 1, cells := 0, slots := 0, locals := 21 }
set_option maxHeartbeats 4000000 in
set_option maxRecDepth 100000 in
theorem KX4_nameOf_c {l : Launch} {dC : Nat → ClassId} {dI : Nat → Nat → Nat} {cI cZ : ClassId} {a : Nat → Nat} {σ : St} {x1 : Int32} {r : Int32} (hok : okA 30 a) (h : fX4_nameOf_c σ x1 = some r) (sz : Nat) : Met l yX4_nameOf wsX4_nameOf rmX4_nameOf_c (Pz (dC, dI) cI cZ (wdC cI cZ a σ) sz [.ref (a 18), .int x1]) (Qzi (dC, dI) 30 a (wdC cI cZ a σ) sz r) 0 0 (aN 30 a sz) := by
  refine Met.ofW (cc := cX4_nameOf) (maxL := 2) (ret := (some .int)) (by decide) rfl ?_
  intro p e s m args below meth c s₁ B hml hv
  obtain ⟨hav, hsz, hP, hKK⟩ := hv
  have hx := B.exec
  have hb := B.bytes
  have hr := B.returns
  have hts := atoms_spec (ws := wsX4_nameOf) B.pre
  have hown : s.vm.findClass RX4 = some m.cls := findClass_of_methodNamed B.named
  have hlocks := B.notSynchronized
  have CF : CallFix p m c cX4_nameOf 2 s args wsX4_nameOf RX4 := ⟨hx, hb, hml, hown, hts⟩
  have hz : zz (dC, dI) 30 a (wdC cI cZ a σ) s.heap s.heap [] := ⟨hP, va_S.rf⟩
  have hl := lv_entry [.ref (a 18), .int x1] (n := 2) (Nat.le_of_ble_eq_true rfl)
  have hen : entryFrame m args 2 = entryFrame m ([.ref (a 18), .int x1] : List Value).toArray 2 := by rw [hav]
  rw [hen, lg_entry_eq]
  generalize (lg_sl [.ref (a 18), .int x1] ++ List.replicate (2 - (lg_sl [.ref (a 18), .int x1]).length) Slot.unset).toArray = ls at hl ⊢
  have hl : lv_has ls 2 [(0, .ref (a 18)), (1, .int x1)] := hl
  have eR : (headSpec wsX4_nameOf rmX4_nameOf_c).room = rmX4_nameOf_c := rfl
  rw [eR]
  have rt : ∀ (v : Int32) (t : St) (pc : Nat) (H : Heap) (locs : List Loc) (ls : Array Slot), decode cX4_nameOf pc = .ok (.ireturn, 1) → some v = some r → zz (dC, dI) 30 a (wdC cI cZ a σ) s.heap H locs → W p l e rmX4_nameOf_c s m args below meth c H locs 0 0 (MQ below (Qzi (dC, dI) 30 a (wdC cI cZ a σ) sz r) args s 0 0 (aN 30 a sz)) (F0 m pc ls [.int v]) := by
    intro v t pc H locs ls hd h hz
    cases h
    exact ziret hsz hx hb hr hlocks hz hd
  generalize (MQ below (Qzi (dC, dI) 30 a (wdC cI cZ a σ) sz r) args s 0 0 (aN 30 a sz)) = Q at rt ⊢
  unfold fX4_nameOf_c at h
  refine lv_aload_n hx hb dX4_nameOf_0 rfl (lv_at hl 0 rfl) ?_
  refine lv_iload_n hx hb dX4_nameOf_1 rfl (lv_at hl 1 rfl) ?_
  obtain ⟨r1, e3, h⟩ := bd1_e h
  refine zcallVi (As := [.int x1]) (rest := []) CF hKK (KX4_has_c (dC := dC) (dI := dI) (cI := cI) (cZ := cZ) (a := a) hok e3) (cwV 1 hts gX4_nameOf_X4_has rfl rfl rfl cdX4_has ⟨Nat.le_of_ble_eq_true rfl, Nat.le_of_ble_eq_true rfl⟩) 18 4 rfl rfl hz rfl hl.1 rfl (Nat.le_of_ble_eq_true rfl) dX4_nameOf_2 ⟨Nat.le_refl _, Nat.le_refl _⟩ (fun H locs hz => ?_)
  refine lv_if_eq (tgt := 17) hx hb dX4_nameOf_5 (by decide) (fun c4 => ?_) (fun c4 => ?_)
  · replace h := ite_t c4 h
    refine lv_iconst (v := (-1 : Int32)) hx hb dX4_nameOf_17 (by decide) ?_
    exact rt (-1 : Int32) σ 18 _ _ _ dX4_nameOf_18 h hz
  · replace h := ite_f c4 h
    refine lv_aload_n hx hb dX4_nameOf_8 rfl (lv_at hl 0 rfl) ?_
    refine va_get (v := .ref (a 19)) hx hb hts inX4_nameOf_X4 hown hKK.1 hz.1 18 rfl rfl 0 (by decide) (hts _ (List.mem_of_getElem? (i := 1) rfl)) (fun _ h9 => h9) rfl dX4_nameOf_9 ?_
    refine lv_iload_n hx hb dX4_nameOf_12 rfl (lv_at hl 1 rfl) ?_
    obtain ⟨c5, h⟩ := ck_e h
    refine va_iald (f := (σ 19)) hx hb hKK.1 hz.1 19 0 rfl rfl c5 dX4_nameOf_13 ?_
    refine lv_goto (tgt := 18) hx hb dX4_nameOf_14 (by decide) ?_
    exact rt ((σ 19) (Int32.toNatClampNeg x1)) σ 18 _ _ _ dX4_nameOf_18 h hz
def fX2_isInLoadReach (σ : St) (x1 : Int32) (x2 : Int32) : Option (Int32) :=
  (if x2 ≤ x1 then (some (0 : Int32)) else ((if ((σ 10) (Int32.toNatClampNeg (2 : Int32))) < (x2 - x1) then (some (0 : Int32)) else (some (1 : Int32)))))
abbrev rmX2_isInLoadReach : Room := { frames := 0, cells := 0, slots := 0, locals := 0 }
set_option maxHeartbeats 4000000 in
set_option maxRecDepth 100000 in
theorem KX2_isInLoadReach {l : Launch} {dC : Nat → ClassId} {dI : Nat → Nat → Nat} {cI cZ : ClassId} {a : Nat → Nat} {σ : St} {x1 : Int32} {x2 : Int32} {r : Int32} (hok : okA 30 a) (h : fX2_isInLoadReach σ x1 x2 = some r) (sz : Nat) : Met l yX2_isInLoadReach wsX2_isInLoadReach rmX2_isInLoadReach (Pz (dC, dI) cI cZ (wdC cI cZ a σ) sz [.ref (a 11), .int x1, .int x2]) (Qzi (dC, dI) 30 a (wdC cI cZ a σ) sz r) 0 0 (aN 30 a sz) := by
  refine Met.ofW (cc := cX2_isInLoadReach) (maxL := 3) (ret := (some .boolean)) (by decide) rfl ?_
  intro p e s m args below meth c s₁ B hml hv
  obtain ⟨hav, hsz, hP, hKK⟩ := hv
  have hx := B.exec
  have hb := B.bytes
  have hr := B.returns
  have hts := atoms_spec (ws := wsX2_isInLoadReach) B.pre
  have hown : s.vm.findClass RX2 = some m.cls := findClass_of_methodNamed B.named
  have hlocks := B.notSynchronized
  have CF : CallFix p m c cX2_isInLoadReach 3 s args wsX2_isInLoadReach RX2 := ⟨hx, hb, hml, hown, hts⟩
  have hz : zz (dC, dI) 30 a (wdC cI cZ a σ) s.heap s.heap [] := ⟨hP, va_S.rf⟩
  have hl := lv_entry [.ref (a 11), .int x1, .int x2] (n := 3) (Nat.le_of_ble_eq_true rfl)
  have hen : entryFrame m args 3 = entryFrame m ([.ref (a 11), .int x1, .int x2] : List Value).toArray 3 := by rw [hav]
  rw [hen, lg_entry_eq]
  generalize (lg_sl [.ref (a 11), .int x1, .int x2] ++ List.replicate (3 - (lg_sl [.ref (a 11), .int x1, .int x2]).length) Slot.unset).toArray = ls at hl ⊢
  have hl : lv_has ls 3 [(0, .ref (a 11)), (1, .int x1), (2, .int x2)] := hl
  have eR : (headSpec wsX2_isInLoadReach rmX2_isInLoadReach).room = rmX2_isInLoadReach := rfl
  rw [eR]
  have rt : ∀ (v : Int32) (t : St) (pc : Nat) (H : Heap) (locs : List Loc) (ls : Array Slot), decode cX2_isInLoadReach pc = .ok (.ireturn, 1) → some v = some r → zz (dC, dI) 30 a (wdC cI cZ a σ) s.heap H locs → (v = 0 ∨ v = 1) → W p l e rmX2_isInLoadReach s m args below meth c H locs 0 0 (MQ below (Qzi (dC, dI) 30 a (wdC cI cZ a σ) sz r) args s 0 0 (aN 30 a sz)) (F0 m pc ls [.int v]) := by
    intro v t pc H locs ls hd h hz hv
    cases h
    exact zzret hsz hx hb hr hlocks hv hz hd
  generalize (MQ below (Qzi (dC, dI) 30 a (wdC cI cZ a σ) sz r) args s 0 0 (aN 30 a sz)) = Q at rt ⊢
  unfold fX2_isInLoadReach at h
  refine lv_iload_n hx hb dX2_isInLoadReach_0 rfl (lv_at hl 2 rfl) ?_
  refine lv_iload_n hx hb dX2_isInLoadReach_1 rfl (lv_at hl 1 rfl) ?_
  refine lv_icmp_le (tgt := 21) hx hb dX2_isInLoadReach_2 (by decide) (fun c1 => ?_) (fun c1 => ?_)
  · replace h := ite_t c1 h
    refine lv_iconst (v := (0 : Int32)) hx hb dX2_isInLoadReach_21 (by decide) ?_
    exact rt (0 : Int32) σ 22 _ _ _ dX2_isInLoadReach_22 h hz (Or.inl rfl)
  · replace h := ite_f c1 h
    refine lv_iload_n hx hb dX2_isInLoadReach_5 rfl (lv_at hl 2 rfl) ?_
    refine lv_iload_n hx hb dX2_isInLoadReach_6 rfl (lv_at hl 1 rfl) ?_
    refine lv_isub hx hb dX2_isInLoadReach_7 ?_
    refine lv_aload_n hx hb dX2_isInLoadReach_8 rfl (lv_at hl 0 rfl) ?_
    refine va_get (v := .ref (a 10)) hx hb hts inX2_isInLoadReach_X2 hown hKK.1 hz.1 11 rfl rfl 1 (by decide) (hts _ (List.mem_of_getElem? (i := 1) rfl)) (fun _ h9 => h9) rfl dX2_isInLoadReach_9 ?_
    refine lv_iconst (v := (2 : Int32)) hx hb dX2_isInLoadReach_12 (by decide) ?_
    refine va_iald (f := (σ 10)) hx hb hKK.1 hz.1 10 0 rfl rfl (by decide : vp_inD (2 : Int32) 3) dX2_isInLoadReach_13 ?_
    refine lv_icmp_gt (tgt := 21) hx hb dX2_isInLoadReach_14 (by decide) (fun c2 => ?_) (fun c2 => ?_)
    · replace h := ite_t c2 h
      refine lv_iconst (v := (0 : Int32)) hx hb dX2_isInLoadReach_21 (by decide) ?_
      exact rt (0 : Int32) σ 22 _ _ _ dX2_isInLoadReach_22 h hz (Or.inl rfl)
    · replace h := ite_f c2 h
      refine lv_iconst (v := (1 : Int32)) hx hb dX2_isInLoadReach_17 (by decide) ?_
      refine lv_goto (tgt := 22) hx hb dX2_isInLoadReach_18 (by decide) ?_
      exact rt (1 : Int32) σ 22 _ _ _ dX2_isInLoadReach_22 h hz (Or.inr rfl)
def fX2_constantFor_s5 (σ : St) (k5 : Int32 → Int32 → Int32 → Int32 → Option (Int32)) (y1 : Int32) (y2 : Int32) (y3 : Int32) (y4 : Int32) : Option (Int32) :=
  (bd1 (fX4_size_c σ ) fun r1 => (if r1 ≤ y4 then (some y3) else ((bd1 (fX4_addressOf_c σ y4) fun r5 => (bd1 (fX4_nameOf_c σ y4) fun r8 => (if r8 = y2 then ((bd1 (fX2_isInLoadReach σ y1 r5) fun r12 => (if r12 = 0 then (k5 y1 y2 y3 (y4 + (1 : Int32))) else ((if y3 = (-1 : Int32) then (k5 y1 y2 y4 (y4 + (1 : Int32))) else ((bd1 (fX4_addressOf_c σ y3) fun r17 => (if r17 ≤ r5 then (k5 y1 y2 y3 (y4 + (1 : Int32))) else (k5 y1 y2 y4 (y4 + (1 : Int32))))))))))) else (k5 y1 y2 y3 (y4 + (1 : Int32)))))))))
def fX2_constantFor_l5 (σ : St)  : Nat → Int32 → Int32 → Int32 → Int32 → Option (Int32) :=
  itr (fX2_constantFor_s5 σ ) (fun _ _ _ _ => none)
def fX2_constantFor (σ : St) (x1 : Int32) (x2 : Int32) : Option (Int32) :=
  fX2_constantFor_l5 σ  FU x1 x2 (-1 : Int32) (0 : Int32)
abbrev rmX2_constantFor : Room := { frames := 2, cells := 0, slots := 0, locals := 43 }
set_option maxHeartbeats 4000000 in
set_option maxRecDepth 100000 in
theorem KX2_constantFor {l : Launch} {dC : Nat → ClassId} {dI : Nat → Nat → Nat} {cI cZ : ClassId} {a : Nat → Nat} {σ : St} {x1 : Int32} {x2 : Int32} {r : Int32} (hok : okA 30 a) (h : fX2_constantFor σ x1 x2 = some r) (sz : Nat) : Met l yX2_constantFor wsX2_constantFor rmX2_constantFor (Pz (dC, dI) cI cZ (wdC cI cZ a σ) sz [.ref (a 11), .int x1, .int x2]) (Qzi (dC, dI) 30 a (wdC cI cZ a σ) sz r) 0 0 (aN 30 a sz) := by
  refine Met.ofW (cc := cX2_constantFor) (maxL := 6) (ret := (some .int)) (by decide) rfl ?_
  intro p e s m args below meth c s₁ B hml hv
  obtain ⟨hav, hsz, hP, hKK⟩ := hv
  have hx := B.exec
  have hb := B.bytes
  have hr := B.returns
  have hts := atoms_spec (ws := wsX2_constantFor) B.pre
  have hown : s.vm.findClass RX2 = some m.cls := findClass_of_methodNamed B.named
  have hlocks := B.notSynchronized
  have CF : CallFix p m c cX2_constantFor 6 s args wsX2_constantFor RX2 := ⟨hx, hb, hml, hown, hts⟩
  have hz : zz (dC, dI) 30 a (wdC cI cZ a σ) s.heap s.heap [] := ⟨hP, va_S.rf⟩
  have hl := lv_entry [.ref (a 11), .int x1, .int x2] (n := 6) (Nat.le_of_ble_eq_true rfl)
  have hen : entryFrame m args 6 = entryFrame m ([.ref (a 11), .int x1, .int x2] : List Value).toArray 6 := by rw [hav]
  rw [hen, lg_entry_eq]
  generalize (lg_sl [.ref (a 11), .int x1, .int x2] ++ List.replicate (6 - (lg_sl [.ref (a 11), .int x1, .int x2]).length) Slot.unset).toArray = ls at hl ⊢
  have hl : lv_has ls 6 [(0, .ref (a 11)), (1, .int x1), (2, .int x2)] := hl
  have eR : (headSpec wsX2_constantFor rmX2_constantFor).room = rmX2_constantFor := rfl
  rw [eR]
  have rt : ∀ (v : Int32) (t : St) (pc : Nat) (H : Heap) (locs : List Loc) (ls : Array Slot), decode cX2_constantFor pc = .ok (.ireturn, 1) → some v = some r → zz (dC, dI) 30 a (wdC cI cZ a σ) s.heap H locs → W p l e rmX2_constantFor s m args below meth c H locs 0 0 (MQ below (Qzi (dC, dI) 30 a (wdC cI cZ a σ) sz r) args s 0 0 (aN 30 a sz)) (F0 m pc ls [.int v]) := by
    intro v t pc H locs ls hd h hz
    cases h
    exact ziret hsz hx hb hr hlocks hz hd
  generalize (MQ below (Qzi (dC, dI) 30 a (wdC cI cZ a σ) sz r) args s 0 0 (aN 30 a sz)) = Q at rt ⊢
  have s5 : ∀ (k5 : Int32 → Int32 → Int32 → Int32 → Option (Int32)) (hk5 : (∀ (y1 : Int32) (y2 : Int32) (y3 : Int32) (y4 : Int32) (H : Heap) (locs : List Loc) (ls : Array Slot), k5 y1 y2 y3 y4 = some r → zz (dC, dI) 30 a (wdC cI cZ a σ) s.heap H locs → lv_has ls 6 [(0, .ref (a 11)), (1, .int y1), (2, .int y2), (3, .int y3), (4, .int y4)] → W p l e rmX2_constantFor s m args below meth c H locs 0 0 Q (F0 m 5 ls []))) (y1 : Int32) (y2 : Int32) (y3 : Int32) (y4 : Int32) (H : Heap) (locs : List Loc) (ls : Array Slot), fX2_constantFor_s5 σ k5 y1 y2 y3 y4 = some r → zz (dC, dI) 30 a (wdC cI cZ a σ) s.heap H locs → lv_has ls 6 [(0, .ref (a 11)), (1, .int y1), (2, .int y2), (3, .int y3), (4, .int y4)] → W p l e rmX2_constantFor s m args below meth c H locs 0 0 Q (F0 m 5 ls []) := by
    intro k5 hk5 y1 y2 y3 y4 H locs ls h hz hl
    unfold fX2_constantFor_s5 at h
    refine lv_iload hx hb dX2_constantFor_5 (lv_at hl 4 rfl) ?_
    refine lv_aload_n hx hb dX2_constantFor_7 rfl (lv_at hl 0 rfl) ?_
    refine va_get (v := .ref (a 18)) hx hb hts inX2_constantFor_X2 hown hKK.1 hz.1 11 rfl rfl 3 (by decide) (hts _ (List.mem_of_getElem? (i := 1) rfl)) (fun _ h9 => h9) rfl dX2_constantFor_8 ?_
    obtain ⟨r1, e3, h⟩ := bd1_e h
    refine zcallVi (As := []) (rest := [.int y4]) CF hKK (KX4_size_c (dC := dC) (dI := dI) (cI := cI) (cZ := cZ) (a := a) hok e3) (cwV 0 hts gX2_constantFor_X4_size rfl rfl rfl cdX4_size ⟨Nat.le_of_ble_eq_true rfl, Nat.le_of_ble_eq_true rfl⟩) 18 4 rfl rfl hz rfl hl.1 rfl (Nat.le_of_ble_eq_true rfl) dX2_constantFor_11 ⟨Nat.le_refl _, Nat.le_refl _⟩ (fun H locs hz => ?_)
    refine lv_icmp_ge (tgt := 78) hx hb dX2_constantFor_14 (by decide) (fun c4 => ?_) (fun c4 => ?_)
    · replace h := ite_t c4 h
      refine lv_iload_n hx hb dX2_constantFor_78 rfl (lv_at hl 3 rfl) ?_
      exact rt y3 σ 79 _ _ _ dX2_constantFor_79 h hz
    · replace h := ite_f c4 h
      refine lv_aload_n hx hb dX2_constantFor_17 rfl (lv_at hl 0 rfl) ?_
      refine va_get (v := .ref (a 18)) hx hb hts inX2_constantFor_X2 hown hKK.1 hz.1 11 rfl rfl 3 (by decide) (hts _ (List.mem_of_getElem? (i := 1) rfl)) (fun _ h9 => h9) rfl dX2_constantFor_18 ?_
      refine lv_iload hx hb dX2_constantFor_21 (lv_at hl 4 rfl) ?_
      obtain ⟨r5, e7, h⟩ := bd1_e h
      refine zcallVi (As := [.int y4]) (rest := []) CF hKK (KX4_addressOf_c (dC := dC) (dI := dI) (cI := cI) (cZ := cZ) (a := a) hok e7) (cwV 1 hts gX2_constantFor_X4_addressOf rfl rfl rfl cdX4_addressOf ⟨Nat.le_of_ble_eq_true rfl, Nat.le_of_ble_eq_true rfl⟩) 18 4 rfl rfl hz rfl hl.1 rfl (Nat.le_of_ble_eq_true rfl) dX2_constantFor_23 ⟨Nat.le_refl _, Nat.le_refl _⟩ (fun H locs hz => ?_)
      refine lv_istore (lv' := [(5, .int r5), (0, .ref (a 11)), (1, .int y1), (2, .int y2), (3, .int y3), (4, .int y4)]) hx hb dX2_constantFor_26 hl (by decide) rfl (fun ls hl => ?_)
      refine lv_aload_n hx hb dX2_constantFor_28 rfl (lv_at hl 1 rfl) ?_
      refine va_get (v := .ref (a 18)) hx hb hts inX2_constantFor_X2 hown hKK.1 hz.1 11 rfl rfl 3 (by decide) (hts _ (List.mem_of_getElem? (i := 1) rfl)) (fun _ h9 => h9) rfl dX2_constantFor_29 ?_
      refine lv_iload hx hb dX2_constantFor_32 (lv_at hl 5 rfl) ?_
      obtain ⟨r8, e10, h⟩ := bd1_e h
      refine zcallVi (As := [.int y4]) (rest := []) CF hKK (KX4_nameOf_c (dC := dC) (dI := dI) (cI := cI) (cZ := cZ) (a := a) hok e10) (cwV 1 hts gX2_constantFor_X4_nameOf rfl rfl rfl cdX4_nameOf ⟨Nat.le_of_ble_eq_true rfl, Nat.le_of_ble_eq_true rfl⟩) 18 4 rfl rfl hz rfl hl.1 rfl (Nat.le_of_ble_eq_true rfl) dX2_constantFor_34 ⟨Nat.le_refl _, Nat.le_refl _⟩ (fun H locs hz => ?_)
      refine lv_iload_n hx hb dX2_constantFor_37 rfl (lv_at hl 3 rfl) ?_
      refine lv_icmp_ne (tgt := 72) hx hb dX2_constantFor_38 (by decide) (fun c11 => ?_) (fun c11 => ?_)
      · replace h := ite_f c11 h
        refine lv_iinc (v := (y4 + (1 : Int32))) (lv' := [(4, .int (y4 + (1 : Int32))), (5, .int r5), (0, .ref (a 11)), (1, .int y1), (2, .int y2), (3, .int y3)]) hx hb dX2_constantFor_72 hl (k := 5) rfl rfl (by decide) rfl (fun ls hl => ?_)
        refine lv_goto (tgt := 5) hx hb dX2_constantFor_75 (by decide) ?_
        exact hk5 y1 y2 y3 (y4 + (1 : Int32)) _ _ _ h hz (lv_sub hl [2, 3, 4, 5, 0] rfl)
      · replace h := ite_t c11 h
        refine lv_aload_n hx hb dX2_constantFor_41 rfl (lv_at hl 1 rfl) ?_
        refine lv_iload_n hx hb dX2_constantFor_42 rfl (lv_at hl 2 rfl) ?_
        refine lv_iload hx hb dX2_constantFor_43 (lv_at hl 0 rfl) ?_
        obtain ⟨r12, e14, h⟩ := bd1_e h
        refine zcallVi (As := [.int y1, .int r5]) (rest := []) CF hKK (KX2_isInLoadReach (dC := dC) (dI := dI) (cI := cI) (cZ := cZ) (a := a) hok e14) (cwV 2 hts gX2_constantFor_X2_isInLoadReach rfl rfl rfl cdX2_isInLoadReach ⟨Nat.le_of_ble_eq_true rfl, Nat.le_of_ble_eq_true rfl⟩) 11 2 rfl rfl hz rfl hl.1 rfl (Nat.le_of_ble_eq_true rfl) dX2_constantFor_45 ⟨Nat.le_refl _, Nat.le_refl _⟩ (fun H locs hz => ?_)
        refine lv_if_eq (tgt := 72) hx hb dX2_constantFor_48 (by decide) (fun c15 => ?_) (fun c15 => ?_)
        · replace h := ite_t c15 h
          refine lv_iinc (v := (y4 + (1 : Int32))) (lv' := [(4, .int (y4 + (1 : Int32))), (5, .int r5), (0, .ref (a 11)), (1, .int y1), (2, .int y2), (3, .int y3)]) hx hb dX2_constantFor_72 hl (k := 5) rfl rfl (by decide) rfl (fun ls hl => ?_)
          refine lv_goto (tgt := 5) hx hb dX2_constantFor_75 (by decide) ?_
          exact hk5 y1 y2 y3 (y4 + (1 : Int32)) _ _ _ h hz (lv_sub hl [2, 3, 4, 5, 0] rfl)
        · replace h := ite_f c15 h
          refine lv_iload_n hx hb dX2_constantFor_51 rfl (lv_at hl 4 rfl) ?_
          refine lv_iconst (v := (-1 : Int32)) hx hb dX2_constantFor_52 (by decide) ?_
          refine lv_icmp_eq (tgt := 69) hx hb dX2_constantFor_53 (by decide) (fun c16 => ?_) (fun c16 => ?_)
          · replace h := ite_t c16 h
            refine lv_iload hx hb dX2_constantFor_69 (lv_at hl 5 rfl) ?_
            refine lv_istore_n (lv' := [(3, .int y4), (5, .int r5), (0, .ref (a 11)), (1, .int y1), (2, .int y2), (4, .int y4)]) hx hb dX2_constantFor_71 rfl hl (by decide) rfl (fun ls hl => ?_)
            refine lv_iinc (v := (y4 + (1 : Int32))) (lv' := [(4, .int (y4 + (1 : Int32))), (3, .int y4), (5, .int r5), (0, .ref (a 11)), (1, .int y1), (2, .int y2)]) hx hb dX2_constantFor_72 hl (k := 5) rfl rfl (by decide) rfl (fun ls hl => ?_)
            refine lv_goto (tgt := 5) hx hb dX2_constantFor_75 (by decide) ?_
            exact hk5 y1 y2 y4 (y4 + (1 : Int32)) _ _ _ h hz (lv_sub hl [3, 4, 5, 1, 0] rfl)
          · replace h := ite_f c16 h
            refine lv_iload hx hb dX2_constantFor_56 (lv_at hl 0 rfl) ?_
            refine lv_aload_n hx hb dX2_constantFor_58 rfl (lv_at hl 1 rfl) ?_
            refine va_get (v := .ref (a 18)) hx hb hts inX2_constantFor_X2 hown hKK.1 hz.1 11 rfl rfl 3 (by decide) (hts _ (List.mem_of_getElem? (i := 1) rfl)) (fun _ h9 => h9) rfl dX2_constantFor_59 ?_
            refine lv_iload_n hx hb dX2_constantFor_62 rfl (lv_at hl 4 rfl) ?_
            obtain ⟨r17, e19, h⟩ := bd1_e h
            refine zcallVi (As := [.int y3]) (rest := [.int r5]) CF hKK (KX4_addressOf_c (dC := dC) (dI := dI) (cI := cI) (cZ := cZ) (a := a) hok e19) (cwV 1 hts gX2_constantFor_X4_addressOf rfl rfl rfl cdX4_addressOf ⟨Nat.le_of_ble_eq_true rfl, Nat.le_of_ble_eq_true rfl⟩) 18 4 rfl rfl hz rfl hl.1 rfl (Nat.le_of_ble_eq_true rfl) dX2_constantFor_63 ⟨Nat.le_refl _, Nat.le_refl _⟩ (fun H locs hz => ?_)
            refine lv_icmp_ge (tgt := 72) hx hb dX2_constantFor_66 (by decide) (fun c20 => ?_) (fun c20 => ?_)
            · replace h := ite_t c20 h
              refine lv_iinc (v := (y4 + (1 : Int32))) (lv' := [(4, .int (y4 + (1 : Int32))), (5, .int r5), (0, .ref (a 11)), (1, .int y1), (2, .int y2), (3, .int y3)]) hx hb dX2_constantFor_72 hl (k := 5) rfl rfl (by decide) rfl (fun ls hl => ?_)
              refine lv_goto (tgt := 5) hx hb dX2_constantFor_75 (by decide) ?_
              exact hk5 y1 y2 y3 (y4 + (1 : Int32)) _ _ _ h hz (lv_sub hl [2, 3, 4, 5, 0] rfl)
            · replace h := ite_f c20 h
              refine lv_iload hx hb dX2_constantFor_69 (lv_at hl 5 rfl) ?_
              refine lv_istore_n (lv' := [(3, .int y4), (5, .int r5), (0, .ref (a 11)), (1, .int y1), (2, .int y2), (4, .int y4)]) hx hb dX2_constantFor_71 rfl hl (by decide) rfl (fun ls hl => ?_)
              refine lv_iinc (v := (y4 + (1 : Int32))) (lv' := [(4, .int (y4 + (1 : Int32))), (3, .int y4), (5, .int r5), (0, .ref (a 11)), (1, .int y1), (2, .int y2)]) hx hb dX2_constantFor_72 hl (k := 5) rfl rfl (by decide) rfl (fun ls hl => ?_)
              refine lv_goto (tgt := 5) hx hb dX2_constantFor_75 (by decide) ?_
              exact hk5 y1 y2 y4 (y4 + (1 : Int32)) _ _ _ h hz (lv_sub hl [3, 4, 5, 1, 0] rfl)
  have l5 : ∀  (n : Nat), ∀ (y1 : Int32) (y2 : Int32) (y3 : Int32) (y4 : Int32) (H : Heap) (locs : List Loc) (ls : Array Slot), fX2_constantFor_l5 σ  n y1 y2 y3 y4 = some r → zz (dC, dI) 30 a (wdC cI cZ a σ) s.heap H locs → lv_has ls 6 [(0, .ref (a 11)), (1, .int y1), (2, .int y2), (3, .int y3), (4, .int y4)] → W p l e rmX2_constantFor s m args below meth c H locs 0 0 Q (F0 m 5 ls []) := by
    intro  n
    induction n with
    | zero => intro y1 y2 y3 y4 H locs ls h; exact nomatch h
    | succ n ih => exact s5  (fX2_constantFor_l5 σ  n) ih
  unfold fX2_constantFor at h
  refine lv_iconst (v := (-1 : Int32)) hx hb dX2_constantFor_0 (by decide) ?_
  refine lv_istore_n (lv' := [(3, .int (-1 : Int32)), (0, .ref (a 11)), (1, .int x1), (2, .int x2)]) hx hb dX2_constantFor_1 rfl hl (by decide) rfl (fun ls hl => ?_)
  refine lv_iconst (v := (0 : Int32)) hx hb dX2_constantFor_2 (by decide) ?_
  refine lv_istore (lv' := [(4, .int (0 : Int32)), (3, .int (-1 : Int32)), (0, .ref (a 11)), (1, .int x1), (2, .int x2)]) hx hb dX2_constantFor_3 hl (by decide) rfl (fun ls hl => ?_)
  exact l5  FU x1 x2 (-1 : Int32) (0 : Int32) _ _ _ h hz (lv_sub hl [2, 3, 4, 1, 0] rfl)
def fX2_labelAddress (σ : St) (x1 : Int32) : Option (Int32) :=
  (if x1 < 0 then (some (-1 : Int32)) else ((if (8 : Int32) ≤ x1 then (some (-1 : Int32)) else ((ck (¬ (x1 < 0 ∨ 8 ≤ Int32.toNatClampNeg x1)) <| some ((σ 27) (Int32.toNatClampNeg x1)))))))
abbrev rmX2_labelAddress : Room := { frames := 0, cells := 0, slots := 0, locals := 0 }
set_option maxHeartbeats 4000000 in
set_option maxRecDepth 100000 in
theorem KX2_labelAddress {l : Launch} {dC : Nat → ClassId} {dI : Nat → Nat → Nat} {cI cZ : ClassId} {a : Nat → Nat} {σ : St} {x1 : Int32} {r : Int32} (hok : okA 30 a) (h : fX2_labelAddress σ x1 = some r) (sz : Nat) : Met l yX2_labelAddress wsX2_labelAddress rmX2_labelAddress (Pz (dC, dI) cI cZ (wdC cI cZ a σ) sz [.ref (a 11), .int x1]) (Qzi (dC, dI) 30 a (wdC cI cZ a σ) sz r) 0 0 (aN 30 a sz) := by
  refine Met.ofW (cc := cX2_labelAddress) (maxL := 2) (ret := (some .int)) (by decide) rfl ?_
  intro p e s m args below meth c s₁ B hml hv
  obtain ⟨hav, hsz, hP, hKK⟩ := hv
  have hx := B.exec
  have hb := B.bytes
  have hr := B.returns
  have hts := atoms_spec (ws := wsX2_labelAddress) B.pre
  have hown : s.vm.findClass RX2 = some m.cls := findClass_of_methodNamed B.named
  have hlocks := B.notSynchronized
  have CF : CallFix p m c cX2_labelAddress 2 s args wsX2_labelAddress RX2 := ⟨hx, hb, hml, hown, hts⟩
  have hz : zz (dC, dI) 30 a (wdC cI cZ a σ) s.heap s.heap [] := ⟨hP, va_S.rf⟩
  have hl := lv_entry [.ref (a 11), .int x1] (n := 2) (Nat.le_of_ble_eq_true rfl)
  have hen : entryFrame m args 2 = entryFrame m ([.ref (a 11), .int x1] : List Value).toArray 2 := by rw [hav]
  rw [hen, lg_entry_eq]
  generalize (lg_sl [.ref (a 11), .int x1] ++ List.replicate (2 - (lg_sl [.ref (a 11), .int x1]).length) Slot.unset).toArray = ls at hl ⊢
  have hl : lv_has ls 2 [(0, .ref (a 11)), (1, .int x1)] := hl
  have eR : (headSpec wsX2_labelAddress rmX2_labelAddress).room = rmX2_labelAddress := rfl
  rw [eR]
  have rt : ∀ (v : Int32) (t : St) (pc : Nat) (H : Heap) (locs : List Loc) (ls : Array Slot), decode cX2_labelAddress pc = .ok (.ireturn, 1) → some v = some r → zz (dC, dI) 30 a (wdC cI cZ a σ) s.heap H locs → W p l e rmX2_labelAddress s m args below meth c H locs 0 0 (MQ below (Qzi (dC, dI) 30 a (wdC cI cZ a σ) sz r) args s 0 0 (aN 30 a sz)) (F0 m pc ls [.int v]) := by
    intro v t pc H locs ls hd h hz
    cases h
    exact ziret hsz hx hb hr hlocks hz hd
  generalize (MQ below (Qzi (dC, dI) 30 a (wdC cI cZ a σ) sz r) args s 0 0 (aN 30 a sz)) = Q at rt ⊢
  unfold fX2_labelAddress at h
  refine lv_iload_n hx hb dX2_labelAddress_0 rfl (lv_at hl 1 rfl) ?_
  refine lv_if_lt (tgt := 22) hx hb dX2_labelAddress_1 (by decide) (fun c1 => ?_) (fun c1 => ?_)
  · replace h := ite_t c1 h
    refine lv_iconst (v := (-1 : Int32)) hx hb dX2_labelAddress_22 (by decide) ?_
    exact rt (-1 : Int32) σ 23 _ _ _ dX2_labelAddress_23 h hz
  · replace h := ite_f c1 h
    refine lv_iload_n hx hb dX2_labelAddress_4 rfl (lv_at hl 1 rfl) ?_
    refine lv_aload_n hx hb dX2_labelAddress_5 rfl (lv_at hl 0 rfl) ?_
    refine va_get (v := .ref (a 27)) hx hb hts inX2_labelAddress_X2 hown hKK.1 hz.1 11 rfl rfl 7 (by decide) (hts _ (List.mem_of_getElem? (i := 1) rfl)) (fun _ h9 => h9) rfl dX2_labelAddress_6 ?_
    refine va_alen (v := (8 : Int32)) hx hb hKK.1 hz.1 27 0 rfl rfl rfl dX2_labelAddress_9 ?_
    refine lv_icmp_ge (tgt := 22) hx hb dX2_labelAddress_10 (by decide) (fun c2 => ?_) (fun c2 => ?_)
    · replace h := ite_t c2 h
      refine lv_iconst (v := (-1 : Int32)) hx hb dX2_labelAddress_22 (by decide) ?_
      exact rt (-1 : Int32) σ 23 _ _ _ dX2_labelAddress_23 h hz
    · replace h := ite_f c2 h
      refine lv_aload_n hx hb dX2_labelAddress_13 rfl (lv_at hl 0 rfl) ?_
      refine va_get (v := .ref (a 27)) hx hb hts inX2_labelAddress_X2 hown hKK.1 hz.1 11 rfl rfl 7 (by decide) (hts _ (List.mem_of_getElem? (i := 1) rfl)) (fun _ h9 => h9) rfl dX2_labelAddress_14 ?_
      refine lv_iload_n hx hb dX2_labelAddress_17 rfl (lv_at hl 1 rfl) ?_
      obtain ⟨c3, h⟩ := ck_e h
      refine va_iald (f := (σ 27)) hx hb hKK.1 hz.1 27 0 rfl rfl c3 dX2_labelAddress_18 ?_
      refine lv_goto (tgt := 23) hx hb dX2_labelAddress_19 (by decide) ?_
      exact rt ((σ 27) (Int32.toNatClampNeg x1)) σ 23 _ _ _ dX2_labelAddress_23 h hz
def fX5_far (σ : St) (x1 : Int32) (x2 : Int32) : Option (Int32) :=
  (if x2 ≤ x1 then (some (x1 - x2)) else (some (x2 - x1)))
abbrev rmX5_far : Room := { frames := 0, cells := 0, slots := 0, locals := 0 }
set_option maxHeartbeats 4000000 in
set_option maxRecDepth 100000 in
theorem KX5_far {l : Launch} {dC : Nat → ClassId} {dI : Nat → Nat → Nat} {cI cZ : ClassId} {a : Nat → Nat} {σ : St} {x1 : Int32} {x2 : Int32} {r : Int32} (hok : okA 30 a) (h : fX5_far σ x1 x2 = some r) (sz : Nat) : Met l yX5_far wsX5_far rmX5_far (Pz (dC, dI) cI cZ (wdC cI cZ a σ) sz [.int x1, .int x2]) (Qzi (dC, dI) 30 a (wdC cI cZ a σ) sz r) 0 0 (aN 30 a sz) := by
  refine Met.ofW (cc := cX5_far) (maxL := 2) (ret := (some .int)) (by decide) rfl ?_
  intro p e s m args below meth c s₁ B hml hv
  obtain ⟨hav, hsz, hP, hKK⟩ := hv
  have hx := B.exec
  have hb := B.bytes
  have hr := B.returns
  have hts := atoms_spec (ws := wsX5_far) B.pre
  have hown : s.vm.findClass RX5 = some m.cls := findClass_of_methodNamed B.named
  have hlocks := B.notSynchronized
  have CF : CallFix p m c cX5_far 2 s args wsX5_far RX5 := ⟨hx, hb, hml, hown, hts⟩
  have hz : zz (dC, dI) 30 a (wdC cI cZ a σ) s.heap s.heap [] := ⟨hP, va_S.rf⟩
  have hl := lv_entry [.int x1, .int x2] (n := 2) (Nat.le_of_ble_eq_true rfl)
  have hen : entryFrame m args 2 = entryFrame m ([.int x1, .int x2] : List Value).toArray 2 := by rw [hav]
  rw [hen, lg_entry_eq]
  generalize (lg_sl [.int x1, .int x2] ++ List.replicate (2 - (lg_sl [.int x1, .int x2]).length) Slot.unset).toArray = ls at hl ⊢
  have hl : lv_has ls 2 [(0, .int x1), (1, .int x2)] := hl
  have eR : (headSpec wsX5_far rmX5_far).room = rmX5_far := rfl
  rw [eR]
  have rt : ∀ (v : Int32) (t : St) (pc : Nat) (H : Heap) (locs : List Loc) (ls : Array Slot), decode cX5_far pc = .ok (.ireturn, 1) → some v = some r → zz (dC, dI) 30 a (wdC cI cZ a σ) s.heap H locs → W p l e rmX5_far s m args below meth c H locs 0 0 (MQ below (Qzi (dC, dI) 30 a (wdC cI cZ a σ) sz r) args s 0 0 (aN 30 a sz)) (F0 m pc ls [.int v]) := by
    intro v t pc H locs ls hd h hz
    cases h
    exact ziret hsz hx hb hr hlocks hz hd
  generalize (MQ below (Qzi (dC, dI) 30 a (wdC cI cZ a σ) sz r) args s 0 0 (aN 30 a sz)) = Q at rt ⊢
  unfold fX5_far at h
  refine lv_iload_n hx hb dX5_far_0 rfl (lv_at hl 0 rfl) ?_
  refine lv_iload_n hx hb dX5_far_1 rfl (lv_at hl 1 rfl) ?_
  refine lv_icmp_ge (tgt := 11) hx hb dX5_far_2 (by decide) (fun c1 => ?_) (fun c1 => ?_)
  · replace h := ite_t c1 h
    refine lv_iload_n hx hb dX5_far_11 rfl (lv_at hl 0 rfl) ?_
    refine lv_iload_n hx hb dX5_far_12 rfl (lv_at hl 1 rfl) ?_
    refine lv_isub hx hb dX5_far_13 ?_
    exact rt (x1 - x2) σ 14 _ _ _ dX5_far_14 h hz
  · replace h := ite_f c1 h
    refine lv_iload_n hx hb dX5_far_5 rfl (lv_at hl 1 rfl) ?_
    refine lv_iload_n hx hb dX5_far_6 rfl (lv_at hl 0 rfl) ?_
    refine lv_isub hx hb dX5_far_7 ?_
    refine lv_goto (tgt := 14) hx hb dX5_far_8 (by decide) ?_
    exact rt (x2 - x1) σ 14 _ _ _ dX5_far_14 h hz
def fX2_goesStraight (σ : St) (x1 : Int32) (x2 : Int32) : Option (Int32) :=
  (bd1 (fX2_labelAddress σ x2) fun r1 => (bd1 (fX5_far σ x1 r1) fun r4 => (if ((σ 10) (Int32.toNatClampNeg (1 : Int32))) < r4 then (some (0 : Int32)) else (some (1 : Int32)))))
abbrev rmX2_goesStraight : Room := { frames := 1, cells := 0, slots := 0, locals := 21 }
set_option maxHeartbeats 4000000 in
set_option maxRecDepth 100000 in
theorem KX2_goesStraight {l : Launch} {dC : Nat → ClassId} {dI : Nat → Nat → Nat} {cI cZ : ClassId} {a : Nat → Nat} {σ : St} {x1 : Int32} {x2 : Int32} {r : Int32} (hok : okA 30 a) (h : fX2_goesStraight σ x1 x2 = some r) (sz : Nat) : Met l yX2_goesStraight wsX2_goesStraight rmX2_goesStraight (Pz (dC, dI) cI cZ (wdC cI cZ a σ) sz [.ref (a 11), .int x1, .int x2]) (Qzi (dC, dI) 30 a (wdC cI cZ a σ) sz r) 0 0 (aN 30 a sz) := by
  refine Met.ofW (cc := cX2_goesStraight) (maxL := 3) (ret := (some .boolean)) (by decide) rfl ?_
  intro p e s m args below meth c s₁ B hml hv
  obtain ⟨hav, hsz, hP, hKK⟩ := hv
  have hx := B.exec
  have hb := B.bytes
  have hr := B.returns
  have hts := atoms_spec (ws := wsX2_goesStraight) B.pre
  have hown : s.vm.findClass RX2 = some m.cls := findClass_of_methodNamed B.named
  have hlocks := B.notSynchronized
  have CF : CallFix p m c cX2_goesStraight 3 s args wsX2_goesStraight RX2 := ⟨hx, hb, hml, hown, hts⟩
  have hz : zz (dC, dI) 30 a (wdC cI cZ a σ) s.heap s.heap [] := ⟨hP, va_S.rf⟩
  have hl := lv_entry [.ref (a 11), .int x1, .int x2] (n := 3) (Nat.le_of_ble_eq_true rfl)
  have hen : entryFrame m args 3 = entryFrame m ([.ref (a 11), .int x1, .int x2] : List Value).toArray 3 := by rw [hav]
  rw [hen, lg_entry_eq]
  generalize (lg_sl [.ref (a 11), .int x1, .int x2] ++ List.replicate (3 - (lg_sl [.ref (a 11), .int x1, .int x2]).length) Slot.unset).toArray = ls at hl ⊢
  have hl : lv_has ls 3 [(0, .ref (a 11)), (1, .int x1), (2, .int x2)] := hl
  have eR : (headSpec wsX2_goesStraight rmX2_goesStraight).room = rmX2_goesStraight := rfl
  rw [eR]
  have rt : ∀ (v : Int32) (t : St) (pc : Nat) (H : Heap) (locs : List Loc) (ls : Array Slot), decode cX2_goesStraight pc = .ok (.ireturn, 1) → some v = some r → zz (dC, dI) 30 a (wdC cI cZ a σ) s.heap H locs → (v = 0 ∨ v = 1) → W p l e rmX2_goesStraight s m args below meth c H locs 0 0 (MQ below (Qzi (dC, dI) 30 a (wdC cI cZ a σ) sz r) args s 0 0 (aN 30 a sz)) (F0 m pc ls [.int v]) := by
    intro v t pc H locs ls hd h hz hv
    cases h
    exact zzret hsz hx hb hr hlocks hv hz hd
  generalize (MQ below (Qzi (dC, dI) 30 a (wdC cI cZ a σ) sz r) args s 0 0 (aN 30 a sz)) = Q at rt ⊢
  unfold fX2_goesStraight at h
  refine lv_iload_n hx hb dX2_goesStraight_0 rfl (lv_at hl 1 rfl) ?_
  refine lv_aload_n hx hb dX2_goesStraight_1 rfl (lv_at hl 0 rfl) ?_
  refine lv_iload_n hx hb dX2_goesStraight_2 rfl (lv_at hl 2 rfl) ?_
  obtain ⟨r1, e3, h⟩ := bd1_e h
  refine zcallVi (As := [.int x2]) (rest := [.int x1]) CF hKK (KX2_labelAddress (dC := dC) (dI := dI) (cI := cI) (cZ := cZ) (a := a) hok e3) (cwV 1 hts gX2_goesStraight_X2_labelAddress rfl rfl rfl cdX2_labelAddress ⟨Nat.le_of_ble_eq_true rfl, Nat.le_of_ble_eq_true rfl⟩) 11 2 rfl rfl hz rfl hl.1 rfl (Nat.le_of_ble_eq_true rfl) dX2_goesStraight_3 ⟨Nat.le_refl _, Nat.le_refl _⟩ (fun H locs hz => ?_)
  obtain ⟨r4, e6, h⟩ := bd1_e h
  refine zcallSNi (As := [.int x1, .int r1]) (rest := []) CF hKK (KX5_far (dC := dC) (dI := dI) (cI := cI) (cZ := cZ) (a := a) hok e6) ⟨va_cnB 2 hts gX2_goesStraight_X5_far_n142 rfl rfl rfl hKK.2.2.2.2.2.2.2.2.2.2.2.2.2.2.2 (hts _ (List.mem_of_getElem? (i := 9) rfl)) cdX5_far.2 ⟨Nat.le_of_ble_eq_true rfl, Nat.le_of_ble_eq_true rfl⟩, hts _ (List.mem_of_getElem? (i := 8) rfl), trivial⟩ hz rfl hl.1 rfl (Nat.le_of_ble_eq_true rfl) dX2_goesStraight_6 ⟨Nat.le_refl _, Nat.le_refl _⟩ (fun H locs hz => ?_)
  refine lv_aload_n hx hb dX2_goesStraight_9 rfl (lv_at hl 0 rfl) ?_
  refine va_get (v := .ref (a 10)) hx hb hts inX2_goesStraight_X2 hown hKK.1 hz.1 11 rfl rfl 1 (by decide) (hts _ (List.mem_of_getElem? (i := 1) rfl)) (fun _ h9 => h9) rfl dX2_goesStraight_10 ?_
  refine lv_iconst (v := (1 : Int32)) hx hb dX2_goesStraight_13 (by decide) ?_
  refine va_iald (f := (σ 10)) hx hb hKK.1 hz.1 10 0 rfl rfl (by decide : vp_inD (1 : Int32) 3) dX2_goesStraight_14 ?_
  refine lv_icmp_gt (tgt := 22) hx hb dX2_goesStraight_15 (by decide) (fun c7 => ?_) (fun c7 => ?_)
  · replace h := ite_t c7 h
    refine lv_iconst (v := (0 : Int32)) hx hb dX2_goesStraight_22 (by decide) ?_
    exact rt (0 : Int32) σ 23 _ _ _ dX2_goesStraight_23 h hz (Or.inl rfl)
  · replace h := ite_f c7 h
    refine lv_iconst (v := (1 : Int32)) hx hb dX2_goesStraight_18 (by decide) ?_
    refine lv_goto (tgt := 23) hx hb dX2_goesStraight_19 (by decide) ?_
    exact rt (1 : Int32) σ 23 _ _ _ dX2_goesStraight_23 h hz (Or.inr rfl)
def fX2_islandFor_b136 (σ : St) (k19 : Int32 → Int32 → Int32 → Int32 → Int32 → Int32 → Option (Int32)) (y1 : Int32) (y2 : Int32) (y3 : Int32) (y6 : Int32) (y8 : Int32) : Option (Int32) :=
  k19 y1 y2 y3 y6 y8 (y6 + (1 : Int32))
def fX2_islandFor_b117 (σ : St) (k19 : Int32 → Int32 → Int32 → Int32 → Int32 → Int32 → Option (Int32)) (y1 : Int32) (y2 : Int32) (y3 : Int32) (y4 : Int32) (y5 : Int32) (y6 : Int32) (y8 : Int32) (y9 : Int32) (t0 : Int32) : Option (Int32) :=
  (if y9 = 0 then (k19 y1 y2 y3 y4 y5 (y6 + (1 : Int32))) else ((if y8 < y5 then (fX2_islandFor_b136 σ k19 y1 y2 y3 y6 y8) else ((if t0 = 0 then (k19 y1 y2 y3 y4 y5 (y6 + (1 : Int32))) else (fX2_islandFor_b136 σ k19 y1 y2 y3 y6 y8))))))
def fX2_islandFor_b116 (σ : St) (k19 : Int32 → Int32 → Int32 → Int32 → Int32 → Int32 → Option (Int32)) (y1 : Int32) (y2 : Int32) (y3 : Int32) (y4 : Int32) (y5 : Int32) (y6 : Int32) (y8 : Int32) (y9 : Int32) : Option (Int32) :=
  fX2_islandFor_b117 σ k19 y1 y2 y3 y4 y5 y6 y8 y9 (0 : Int32)
def fX2_islandFor_b83 (σ : St) (k19 : Int32 → Int32 → Int32 → Int32 → Int32 → Int32 → Option (Int32)) (y1 : Int32) (y2 : Int32) (y3 : Int32) (y4 : Int32) (y5 : Int32) (y6 : Int32) (y7 : Int32) (y8 : Int32) (t0 : Int32) : Option (Int32) :=
  (if y4 = (-1 : Int32) then (fX2_islandFor_b116 σ k19 y1 y2 y3 y4 y5 y6 y8 t0) else ((if y8 = y5 then ((bd1 (fX4_addressOf_i σ y4) fun r26 => (if r26 ≤ y7 then (fX2_islandFor_b116 σ k19 y1 y2 y3 y4 y5 y6 y8 t0) else (fX2_islandFor_b117 σ k19 y1 y2 y3 y4 y5 y6 y8 t0 (1 : Int32))))) else (fX2_islandFor_b116 σ k19 y1 y2 y3 y4 y5 y6 y8 t0))))
def fX2_islandFor_b82 (σ : St) (k19 : Int32 → Int32 → Int32 → Int32 → Int32 → Int32 → Option (Int32)) (y1 : Int32) (y2 : Int32) (y3 : Int32) (y4 : Int32) (y5 : Int32) (y6 : Int32) (y7 : Int32) (y8 : Int32) : Option (Int32) :=
  fX2_islandFor_b83 σ k19 y1 y2 y3 y4 y5 y6 y7 y8 (0 : Int32)
def fX2_islandFor_s19 (σ : St) (k19 : Int32 → Int32 → Int32 → Int32 → Int32 → Int32 → Option (Int32)) (y1 : Int32) (y2 : Int32) (y3 : Int32) (y4 : Int32) (y5 : Int32) (y6 : Int32) : Option (Int32) :=
  (bd1 (fX4_size_i σ ) fun r7 => (if r7 ≤ y6 then (some y4) else ((bd1 (fX4_addressOf_i σ y6) fun r11 => (bd1 (fX5_far σ r11 y3) fun r14 => (bd1 (fX4_nameOf_i σ y6) fun r17 => (if r17 = y2 then ((bd1 (fX5_far σ r11 y1) fun r30 => (if ((σ 10) (Int32.toNatClampNeg (1 : Int32))) < r30 then (fX2_islandFor_b82 σ k19 y1 y2 y3 y4 y5 y6 r11 r14) else (fX2_islandFor_b83 σ k19 y1 y2 y3 y4 y5 y6 r11 r14 (1 : Int32))))) else (fX2_islandFor_b82 σ k19 y1 y2 y3 y4 y5 y6 r11 r14))))))))
def fX2_islandFor_l19 (σ : St)  : Nat → Int32 → Int32 → Int32 → Int32 → Int32 → Int32 → Option (Int32) :=
  itr (fX2_islandFor_s19 σ ) (fun _ _ _ _ _ _ => none)
def fX2_islandFor (σ : St) (x1 : Int32) (x2 : Int32) : Option (Int32) :=
  (bd1 (fX2_labelAddress σ x2) fun r1 => (bd1 (fX5_far σ x1 r1) fun r4 => fX2_islandFor_l19 σ  FU x1 x2 r1 (-1 : Int32) r4 (0 : Int32)))
abbrev rmX2_islandFor : Room := { frames := 2, cells := 0, slots := 0, locals := 43 }
set_option maxHeartbeats 4000000 in
set_option maxRecDepth 100000 in
theorem KX2_islandFor {l : Launch} {dC : Nat → ClassId} {dI : Nat → Nat → Nat} {cI cZ : ClassId} {a : Nat → Nat} {σ : St} {x1 : Int32} {x2 : Int32} {r : Int32} (hok : okA 30 a) (h : fX2_islandFor σ x1 x2 = some r) (sz : Nat) : Met l yX2_islandFor wsX2_islandFor rmX2_islandFor (Pz (dC, dI) cI cZ (wdC cI cZ a σ) sz [.ref (a 11), .int x1, .int x2]) (Qzi (dC, dI) 30 a (wdC cI cZ a σ) sz r) 0 0 (aN 30 a sz) := by
  refine Met.ofW (cc := cX2_islandFor) (maxL := 11) (ret := (some .int)) (by decide) rfl ?_
  intro p e s m args below meth c s₁ B hml hv
  obtain ⟨hav, hsz, hP, hKK⟩ := hv
  have hx := B.exec
  have hb := B.bytes
  have hr := B.returns
  have hts := atoms_spec (ws := wsX2_islandFor) B.pre
  have hown : s.vm.findClass RX2 = some m.cls := findClass_of_methodNamed B.named
  have hlocks := B.notSynchronized
  have CF : CallFix p m c cX2_islandFor 11 s args wsX2_islandFor RX2 := ⟨hx, hb, hml, hown, hts⟩
  have hz : zz (dC, dI) 30 a (wdC cI cZ a σ) s.heap s.heap [] := ⟨hP, va_S.rf⟩
  have hl := lv_entry [.ref (a 11), .int x1, .int x2] (n := 11) (Nat.le_of_ble_eq_true rfl)
  have hen : entryFrame m args 11 = entryFrame m ([.ref (a 11), .int x1, .int x2] : List Value).toArray 11 := by rw [hav]
  rw [hen, lg_entry_eq]
  generalize (lg_sl [.ref (a 11), .int x1, .int x2] ++ List.replicate (11 - (lg_sl [.ref (a 11), .int x1, .int x2]).length) Slot.unset).toArray = ls at hl ⊢
  have hl : lv_has ls 11 [(0, .ref (a 11)), (1, .int x1), (2, .int x2)] := hl
  have eR : (headSpec wsX2_islandFor rmX2_islandFor).room = rmX2_islandFor := rfl
  rw [eR]
  have rt : ∀ (v : Int32) (t : St) (pc : Nat) (H : Heap) (locs : List Loc) (ls : Array Slot), decode cX2_islandFor pc = .ok (.ireturn, 1) → some v = some r → zz (dC, dI) 30 a (wdC cI cZ a σ) s.heap H locs → W p l e rmX2_islandFor s m args below meth c H locs 0 0 (MQ below (Qzi (dC, dI) 30 a (wdC cI cZ a σ) sz r) args s 0 0 (aN 30 a sz)) (F0 m pc ls [.int v]) := by
    intro v t pc H locs ls hd h hz
    cases h
    exact ziret hsz hx hb hr hlocks hz hd
  generalize (MQ below (Qzi (dC, dI) 30 a (wdC cI cZ a σ) sz r) args s 0 0 (aN 30 a sz)) = Q at rt ⊢
  have b136 : ∀ (k19 : Int32 → Int32 → Int32 → Int32 → Int32 → Int32 → Option (Int32)) (hk19 : (∀ (y1 : Int32) (y2 : Int32) (y3 : Int32) (y4 : Int32) (y5 : Int32) (y6 : Int32) (H : Heap) (locs : List Loc) (ls : Array Slot), k19 y1 y2 y3 y4 y5 y6 = some r → zz (dC, dI) 30 a (wdC cI cZ a σ) s.heap H locs → lv_has ls 11 [(0, .ref (a 11)), (1, .int y1), (2, .int y2), (3, .int y3), (4, .int y4), (5, .int y5), (6, .int y6)] → W p l e rmX2_islandFor s m args below meth c H locs 0 0 Q (F0 m 19 ls []))) (y1 : Int32) (y2 : Int32) (y3 : Int32) (y6 : Int32) (y8 : Int32) (H : Heap) (locs : List Loc) (ls : Array Slot), fX2_islandFor_b136 σ k19 y1 y2 y3 y6 y8 = some r → zz (dC, dI) 30 a (wdC cI cZ a σ) s.heap H locs → lv_has ls 11 [(0, .ref (a 11)), (1, .int y1), (2, .int y2), (3, .int y3), (6, .int y6), (8, .int y8)] → W p l e rmX2_islandFor s m args below meth c H locs 0 0 Q (F0 m 136 ls []) := by
    intro k19 hk19 y1 y2 y3 y6 y8 H locs ls h hz hl
    unfold fX2_islandFor_b136 at h
    refine lv_iload hx hb dX2_islandFor_136 (lv_at hl 4 rfl) ?_
    refine lv_istore (lv' := [(4, .int y6), (0, .ref (a 11)), (1, .int y1), (2, .int y2), (3, .int y3), (6, .int y6), (8, .int y8)]) hx hb dX2_islandFor_138 hl (by decide) rfl (fun ls hl => ?_)
    refine lv_iload hx hb dX2_islandFor_140 (lv_at hl 6 rfl) ?_
    refine lv_istore (lv' := [(5, .int y8), (4, .int y6), (0, .ref (a 11)), (1, .int y1), (2, .int y2), (3, .int y3), (6, .int y6), (8, .int y8)]) hx hb dX2_islandFor_142 hl (by decide) rfl (fun ls hl => ?_)
    refine lv_iinc (v := (y6 + (1 : Int32))) (lv' := [(6, .int (y6 + (1 : Int32))), (5, .int y8), (4, .int y6), (0, .ref (a 11)), (1, .int y1), (2, .int y2), (3, .int y3), (8, .int y8)]) hx hb dX2_islandFor_144 hl (k := 6) rfl rfl (by decide) rfl (fun ls hl => ?_)
    refine lv_goto (tgt := 19) hx hb dX2_islandFor_147 (by decide) ?_
    exact hk19 y1 y2 y3 y6 y8 (y6 + (1 : Int32)) _ _ _ h hz (lv_sub hl [3, 4, 5, 6, 2, 1, 0] rfl)
  have b117 : ∀ (k19 : Int32 → Int32 → Int32 → Int32 → Int32 → Int32 → Option (Int32)) (hk19 : (∀ (y1 : Int32) (y2 : Int32) (y3 : Int32) (y4 : Int32) (y5 : Int32) (y6 : Int32) (H : Heap) (locs : List Loc) (ls : Array Slot), k19 y1 y2 y3 y4 y5 y6 = some r → zz (dC, dI) 30 a (wdC cI cZ a σ) s.heap H locs → lv_has ls 11 [(0, .ref (a 11)), (1, .int y1), (2, .int y2), (3, .int y3), (4, .int y4), (5, .int y5), (6, .int y6)] → W p l e rmX2_islandFor s m args below meth c H locs 0 0 Q (F0 m 19 ls []))) (y1 : Int32) (y2 : Int32) (y3 : Int32) (y4 : Int32) (y5 : Int32) (y6 : Int32) (y8 : Int32) (y9 : Int32) (t0 : Int32) (H : Heap) (locs : List Loc) (ls : Array Slot), fX2_islandFor_b117 σ k19 y1 y2 y3 y4 y5 y6 y8 y9 t0 = some r → zz (dC, dI) 30 a (wdC cI cZ a σ) s.heap H locs → lv_has ls 11 [(0, .ref (a 11)), (1, .int y1), (2, .int y2), (3, .int y3), (4, .int y4), (5, .int y5), (6, .int y6), (8, .int y8), (9, .int y9)] → W p l e rmX2_islandFor s m args below meth c H locs 0 0 Q (F0 m 117 ls [.int t0]) := by
    intro k19 hk19 y1 y2 y3 y4 y5 y6 y8 y9 t0 H locs ls h hz hl
    unfold fX2_islandFor_b117 at h
    refine lv_istore (lv' := [(10, .int t0), (0, .ref (a 11)), (1, .int y1), (2, .int y2), (3, .int y3), (4, .int y4), (5, .int y5), (6, .int y6), (8, .int y8), (9, .int y9)]) hx hb dX2_islandFor_117 hl (by decide) rfl (fun ls hl => ?_)
    refine lv_iload hx hb dX2_islandFor_119 (lv_at hl 9 rfl) ?_
    refine lv_if_eq (tgt := 144) hx hb dX2_islandFor_121 (by decide) (fun c22 => ?_) (fun c22 => ?_)
    · replace h := ite_t c22 h
      refine lv_iinc (v := (y6 + (1 : Int32))) (lv' := [(6, .int (y6 + (1 : Int32))), (10, .int t0), (0, .ref (a 11)), (1, .int y1), (2, .int y2), (3, .int y3), (4, .int y4), (5, .int y5), (8, .int y8), (9, .int y9)]) hx hb dX2_islandFor_144 hl (k := 7) rfl rfl (by decide) rfl (fun ls hl => ?_)
      refine lv_goto (tgt := 19) hx hb dX2_islandFor_147 (by decide) ?_
      exact hk19 y1 y2 y3 y4 y5 (y6 + (1 : Int32)) _ _ _ h hz (lv_sub hl [2, 3, 4, 5, 6, 7, 0] rfl)
    · replace h := ite_f c22 h
      refine lv_iload hx hb dX2_islandFor_124 (lv_at hl 8 rfl) ?_
      refine lv_iload hx hb dX2_islandFor_126 (lv_at hl 6 rfl) ?_
      refine lv_icmp_lt (tgt := 136) hx hb dX2_islandFor_128 (by decide) (fun c23 => ?_) (fun c23 => ?_)
      · replace h := ite_t c23 h
        exact b136 k19 hk19 y1 y2 y3 y6 y8 _ _ _ h hz (lv_sub hl [1, 2, 3, 4, 7, 8] rfl)
      · replace h := ite_f c23 h
        refine lv_iload hx hb dX2_islandFor_131 (lv_at hl 0 rfl) ?_
        refine lv_if_eq (tgt := 144) hx hb dX2_islandFor_133 (by decide) (fun c24 => ?_) (fun c24 => ?_)
        · replace h := ite_t c24 h
          refine lv_iinc (v := (y6 + (1 : Int32))) (lv' := [(6, .int (y6 + (1 : Int32))), (10, .int t0), (0, .ref (a 11)), (1, .int y1), (2, .int y2), (3, .int y3), (4, .int y4), (5, .int y5), (8, .int y8), (9, .int y9)]) hx hb dX2_islandFor_144 hl (k := 7) rfl rfl (by decide) rfl (fun ls hl => ?_)
          refine lv_goto (tgt := 19) hx hb dX2_islandFor_147 (by decide) ?_
          exact hk19 y1 y2 y3 y4 y5 (y6 + (1 : Int32)) _ _ _ h hz (lv_sub hl [2, 3, 4, 5, 6, 7, 0] rfl)
        · replace h := ite_f c24 h
          exact b136 k19 hk19 y1 y2 y3 y6 y8 _ _ _ h hz (lv_sub hl [1, 2, 3, 4, 7, 8] rfl)
  have b116 : ∀ (k19 : Int32 → Int32 → Int32 → Int32 → Int32 → Int32 → Option (Int32)) (hk19 : (∀ (y1 : Int32) (y2 : Int32) (y3 : Int32) (y4 : Int32) (y5 : Int32) (y6 : Int32) (H : Heap) (locs : List Loc) (ls : Array Slot), k19 y1 y2 y3 y4 y5 y6 = some r → zz (dC, dI) 30 a (wdC cI cZ a σ) s.heap H locs → lv_has ls 11 [(0, .ref (a 11)), (1, .int y1), (2, .int y2), (3, .int y3), (4, .int y4), (5, .int y5), (6, .int y6)] → W p l e rmX2_islandFor s m args below meth c H locs 0 0 Q (F0 m 19 ls []))) (y1 : Int32) (y2 : Int32) (y3 : Int32) (y4 : Int32) (y5 : Int32) (y6 : Int32) (y8 : Int32) (y9 : Int32) (H : Heap) (locs : List Loc) (ls : Array Slot), fX2_islandFor_b116 σ k19 y1 y2 y3 y4 y5 y6 y8 y9 = some r → zz (dC, dI) 30 a (wdC cI cZ a σ) s.heap H locs → lv_has ls 11 [(0, .ref (a 11)), (1, .int y1), (2, .int y2), (3, .int y3), (4, .int y4), (5, .int y5), (6, .int y6), (8, .int y8), (9, .int y9)] → W p l e rmX2_islandFor s m args below meth c H locs 0 0 Q (F0 m 116 ls []) := by
    intro k19 hk19 y1 y2 y3 y4 y5 y6 y8 y9 H locs ls h hz hl
    unfold fX2_islandFor_b116 at h
    refine lv_iconst (v := (0 : Int32)) hx hb dX2_islandFor_116 (by decide) ?_
    exact b117 k19 hk19 y1 y2 y3 y4 y5 y6 y8 y9 (0 : Int32) _ _ _ h hz (lv_sub hl [0, 1, 2, 3, 4, 5, 6, 7, 8] rfl)
  have b83 : ∀ (k19 : Int32 → Int32 → Int32 → Int32 → Int32 → Int32 → Option (Int32)) (hk19 : (∀ (y1 : Int32) (y2 : Int32) (y3 : Int32) (y4 : Int32) (y5 : Int32) (y6 : Int32) (H : Heap) (locs : List Loc) (ls : Array Slot), k19 y1 y2 y3 y4 y5 y6 = some r → zz (dC, dI) 30 a (wdC cI cZ a σ) s.heap H locs → lv_has ls 11 [(0, .ref (a 11)), (1, .int y1), (2, .int y2), (3, .int y3), (4, .int y4), (5, .int y5), (6, .int y6)] → W p l e rmX2_islandFor s m args below meth c H locs 0 0 Q (F0 m 19 ls []))) (y1 : Int32) (y2 : Int32) (y3 : Int32) (y4 : Int32) (y5 : Int32) (y6 : Int32) (y7 : Int32) (y8 : Int32) (t0 : Int32) (H : Heap) (locs : List Loc) (ls : Array Slot), fX2_islandFor_b83 σ k19 y1 y2 y3 y4 y5 y6 y7 y8 t0 = some r → zz (dC, dI) 30 a (wdC cI cZ a σ) s.heap H locs → lv_has ls 11 [(0, .ref (a 11)), (1, .int y1), (2, .int y2), (3, .int y3), (4, .int y4), (5, .int y5), (6, .int y6), (7, .int y7), (8, .int y8)] → W p l e rmX2_islandFor s m args below meth c H locs 0 0 Q (F0 m 83 ls [.int t0]) := by
    intro k19 hk19 y1 y2 y3 y4 y5 y6 y7 y8 t0 H locs ls h hz hl
    unfold fX2_islandFor_b83 at h
    refine lv_istore (lv' := [(9, .int t0), (0, .ref (a 11)), (1, .int y1), (2, .int y2), (3, .int y3), (4, .int y4), (5, .int y5), (6, .int y6), (7, .int y7), (8, .int y8)]) hx hb dX2_islandFor_83 hl (by decide) rfl (fun ls hl => ?_)
    refine lv_iload hx hb dX2_islandFor_85 (lv_at hl 5 rfl) ?_
    refine lv_iconst (v := (-1 : Int32)) hx hb dX2_islandFor_87 (by decide) ?_
    refine lv_icmp_eq (tgt := 116) hx hb dX2_islandFor_88 (by decide) (fun c21 => ?_) (fun c21 => ?_)
    · replace h := ite_t c21 h
      exact b116 k19 hk19 y1 y2 y3 y4 y5 y6 y8 t0 _ _ _ h hz (lv_sub hl [1, 2, 3, 4, 5, 6, 7, 9, 0] rfl)
    · replace h := ite_f c21 h
      refine lv_iload hx hb dX2_islandFor_91 (lv_at hl 9 rfl) ?_
      refine lv_iload hx hb dX2_islandFor_93 (lv_at hl 6 rfl) ?_
      refine lv_icmp_ne (tgt := 116) hx hb dX2_islandFor_95 (by decide) (fun c25 => ?_) (fun c25 => ?_)
      · replace h := ite_f c25 h
        exact b116 k19 hk19 y1 y2 y3 y4 y5 y6 y8 t0 _ _ _ h hz (lv_sub hl [1, 2, 3, 4, 5, 6, 7, 9, 0] rfl)
      · replace h := ite_t c25 h
        refine lv_iload hx hb dX2_islandFor_98 (lv_at hl 8 rfl) ?_
        refine lv_aload_n hx hb dX2_islandFor_100 rfl (lv_at hl 1 rfl) ?_
        refine va_get (v := .ref (a 12)) hx hb hts inX2_islandFor_X2 hown hKK.1 hz.1 11 rfl rfl 2 (by decide) (hts _ (List.mem_of_getElem? (i := 1) rfl)) (fun _ h9 => h9) rfl dX2_islandFor_101 ?_
        refine lv_iload hx hb dX2_islandFor_104 (lv_at hl 5 rfl) ?_
        obtain ⟨r26, e28, h⟩ := bd1_e h
        refine zcallVi (As := [.int y4]) (rest := [.int y7]) CF hKK (KX4_addressOf_i (dC := dC) (dI := dI) (cI := cI) (cZ := cZ) (a := a) hok e28) (cwV 1 hts gX2_islandFor_X4_addressOf rfl rfl rfl cdX4_addressOf ⟨Nat.le_of_ble_eq_true rfl, Nat.le_of_ble_eq_true rfl⟩) 12 4 rfl rfl hz rfl hl.1 rfl (Nat.le_of_ble_eq_true rfl) dX2_islandFor_106 ⟨Nat.le_refl _, Nat.le_refl _⟩ (fun H locs hz => ?_)
        refine lv_icmp_ge (tgt := 116) hx hb dX2_islandFor_109 (by decide) (fun c29 => ?_) (fun c29 => ?_)
        · replace h := ite_t c29 h
          exact b116 k19 hk19 y1 y2 y3 y4 y5 y6 y8 t0 _ _ _ h hz (lv_sub hl [1, 2, 3, 4, 5, 6, 7, 9, 0] rfl)
        · replace h := ite_f c29 h
          refine lv_iconst (v := (1 : Int32)) hx hb dX2_islandFor_112 (by decide) ?_
          refine lv_goto (tgt := 117) hx hb dX2_islandFor_113 (by decide) ?_
          exact b117 k19 hk19 y1 y2 y3 y4 y5 y6 y8 t0 (1 : Int32) _ _ _ h hz (lv_sub hl [1, 2, 3, 4, 5, 6, 7, 9, 0] rfl)
  have b82 : ∀ (k19 : Int32 → Int32 → Int32 → Int32 → Int32 → Int32 → Option (Int32)) (hk19 : (∀ (y1 : Int32) (y2 : Int32) (y3 : Int32) (y4 : Int32) (y5 : Int32) (y6 : Int32) (H : Heap) (locs : List Loc) (ls : Array Slot), k19 y1 y2 y3 y4 y5 y6 = some r → zz (dC, dI) 30 a (wdC cI cZ a σ) s.heap H locs → lv_has ls 11 [(0, .ref (a 11)), (1, .int y1), (2, .int y2), (3, .int y3), (4, .int y4), (5, .int y5), (6, .int y6)] → W p l e rmX2_islandFor s m args below meth c H locs 0 0 Q (F0 m 19 ls []))) (y1 : Int32) (y2 : Int32) (y3 : Int32) (y4 : Int32) (y5 : Int32) (y6 : Int32) (y7 : Int32) (y8 : Int32) (H : Heap) (locs : List Loc) (ls : Array Slot), fX2_islandFor_b82 σ k19 y1 y2 y3 y4 y5 y6 y7 y8 = some r → zz (dC, dI) 30 a (wdC cI cZ a σ) s.heap H locs → lv_has ls 11 [(0, .ref (a 11)), (1, .int y1), (2, .int y2), (3, .int y3), (4, .int y4), (5, .int y5), (6, .int y6), (7, .int y7), (8, .int y8)] → W p l e rmX2_islandFor s m args below meth c H locs 0 0 Q (F0 m 82 ls []) := by
    intro k19 hk19 y1 y2 y3 y4 y5 y6 y7 y8 H locs ls h hz hl
    unfold fX2_islandFor_b82 at h
    refine lv_iconst (v := (0 : Int32)) hx hb dX2_islandFor_82 (by decide) ?_
    exact b83 k19 hk19 y1 y2 y3 y4 y5 y6 y7 y8 (0 : Int32) _ _ _ h hz (lv_sub hl [0, 1, 2, 3, 4, 5, 6, 7, 8] rfl)
  have s19 : ∀ (k19 : Int32 → Int32 → Int32 → Int32 → Int32 → Int32 → Option (Int32)) (hk19 : (∀ (y1 : Int32) (y2 : Int32) (y3 : Int32) (y4 : Int32) (y5 : Int32) (y6 : Int32) (H : Heap) (locs : List Loc) (ls : Array Slot), k19 y1 y2 y3 y4 y5 y6 = some r → zz (dC, dI) 30 a (wdC cI cZ a σ) s.heap H locs → lv_has ls 11 [(0, .ref (a 11)), (1, .int y1), (2, .int y2), (3, .int y3), (4, .int y4), (5, .int y5), (6, .int y6)] → W p l e rmX2_islandFor s m args below meth c H locs 0 0 Q (F0 m 19 ls []))) (y1 : Int32) (y2 : Int32) (y3 : Int32) (y4 : Int32) (y5 : Int32) (y6 : Int32) (H : Heap) (locs : List Loc) (ls : Array Slot), fX2_islandFor_s19 σ k19 y1 y2 y3 y4 y5 y6 = some r → zz (dC, dI) 30 a (wdC cI cZ a σ) s.heap H locs → lv_has ls 11 [(0, .ref (a 11)), (1, .int y1), (2, .int y2), (3, .int y3), (4, .int y4), (5, .int y5), (6, .int y6)] → W p l e rmX2_islandFor s m args below meth c H locs 0 0 Q (F0 m 19 ls []) := by
    intro k19 hk19 y1 y2 y3 y4 y5 y6 H locs ls h hz hl
    unfold fX2_islandFor_s19 at h
    refine lv_iload hx hb dX2_islandFor_19 (lv_at hl 6 rfl) ?_
    refine lv_aload_n hx hb dX2_islandFor_21 rfl (lv_at hl 0 rfl) ?_
    refine va_get (v := .ref (a 12)) hx hb hts inX2_islandFor_X2 hown hKK.1 hz.1 11 rfl rfl 2 (by decide) (hts _ (List.mem_of_getElem? (i := 1) rfl)) (fun _ h9 => h9) rfl dX2_islandFor_22 ?_
    obtain ⟨r7, e9, h⟩ := bd1_e h
    refine zcallVi (As := []) (rest := [.int y6]) CF hKK (KX4_size_i (dC := dC) (dI := dI) (cI := cI) (cZ := cZ) (a := a) hok e9) (cwV 0 hts gX2_islandFor_X4_size rfl rfl rfl cdX4_size ⟨Nat.le_of_ble_eq_true rfl, Nat.le_of_ble_eq_true rfl⟩) 12 4 rfl rfl hz rfl hl.1 rfl (Nat.le_of_ble_eq_true rfl) dX2_islandFor_25 ⟨Nat.le_refl _, Nat.le_refl _⟩ (fun H locs hz => ?_)
    refine lv_icmp_ge (tgt := 150) hx hb dX2_islandFor_28 (by decide) (fun c10 => ?_) (fun c10 => ?_)
    · replace h := ite_t c10 h
      refine lv_iload hx hb dX2_islandFor_150 (lv_at hl 4 rfl) ?_
      exact rt y4 σ 152 _ _ _ dX2_islandFor_152 h hz
    · replace h := ite_f c10 h
      refine lv_aload_n hx hb dX2_islandFor_31 rfl (lv_at hl 0 rfl) ?_
      refine va_get (v := .ref (a 12)) hx hb hts inX2_islandFor_X2 hown hKK.1 hz.1 11 rfl rfl 2 (by decide) (hts _ (List.mem_of_getElem? (i := 1) rfl)) (fun _ h9 => h9) rfl dX2_islandFor_32 ?_
      refine lv_iload hx hb dX2_islandFor_35 (lv_at hl 6 rfl) ?_
      obtain ⟨r11, e13, h⟩ := bd1_e h
      refine zcallVi (As := [.int y6]) (rest := []) CF hKK (KX4_addressOf_i (dC := dC) (dI := dI) (cI := cI) (cZ := cZ) (a := a) hok e13) (cwV 1 hts gX2_islandFor_X4_addressOf rfl rfl rfl cdX4_addressOf ⟨Nat.le_of_ble_eq_true rfl, Nat.le_of_ble_eq_true rfl⟩) 12 4 rfl rfl hz rfl hl.1 rfl (Nat.le_of_ble_eq_true rfl) dX2_islandFor_37 ⟨Nat.le_refl _, Nat.le_refl _⟩ (fun H locs hz => ?_)
      refine lv_istore (lv' := [(7, .int r11), (0, .ref (a 11)), (1, .int y1), (2, .int y2), (3, .int y3), (4, .int y4), (5, .int y5), (6, .int y6)]) hx hb dX2_islandFor_40 hl (by decide) rfl (fun ls hl => ?_)
      refine lv_iload hx hb dX2_islandFor_42 (lv_at hl 0 rfl) ?_
      refine lv_iload_n hx hb dX2_islandFor_44 rfl (lv_at hl 4 rfl) ?_
      obtain ⟨r14, e16, h⟩ := bd1_e h
      refine zcallSNi (As := [.int r11, .int y3]) (rest := []) CF hKK (KX5_far (dC := dC) (dI := dI) (cI := cI) (cZ := cZ) (a := a) hok e16) ⟨va_cnB 2 hts gX2_islandFor_X5_far_n142 rfl rfl rfl hKK.2.2.2.2.2.2.2.2.2.2.2.2.2.2.2 (hts _ (List.mem_of_getElem? (i := 10) rfl)) cdX5_far.2 ⟨Nat.le_of_ble_eq_true rfl, Nat.le_of_ble_eq_true rfl⟩, hts _ (List.mem_of_getElem? (i := 9) rfl), trivial⟩ hz rfl hl.1 rfl (Nat.le_of_ble_eq_true rfl) dX2_islandFor_45 ⟨Nat.le_refl _, Nat.le_refl _⟩ (fun H locs hz => ?_)
      refine lv_istore (lv' := [(8, .int r14), (7, .int r11), (0, .ref (a 11)), (1, .int y1), (2, .int y2), (3, .int y3), (4, .int y4), (5, .int y5), (6, .int y6)]) hx hb dX2_islandFor_48 hl (by decide) rfl (fun ls hl => ?_)
      refine lv_aload_n hx hb dX2_islandFor_50 rfl (lv_at hl 2 rfl) ?_
      refine va_get (v := .ref (a 12)) hx hb hts inX2_islandFor_X2 hown hKK.1 hz.1 11 rfl rfl 2 (by decide) (hts _ (List.mem_of_getElem? (i := 1) rfl)) (fun _ h9 => h9) rfl dX2_islandFor_51 ?_
      refine lv_iload hx hb dX2_islandFor_54 (lv_at hl 8 rfl) ?_
      obtain ⟨r17, e19, h⟩ := bd1_e h
      refine zcallVi (As := [.int y6]) (rest := []) CF hKK (KX4_nameOf_i (dC := dC) (dI := dI) (cI := cI) (cZ := cZ) (a := a) hok e19) (cwV 1 hts gX2_islandFor_X4_nameOf rfl rfl rfl cdX4_nameOf ⟨Nat.le_of_ble_eq_true rfl, Nat.le_of_ble_eq_true rfl⟩) 12 4 rfl rfl hz rfl hl.1 rfl (Nat.le_of_ble_eq_true rfl) dX2_islandFor_56 ⟨Nat.le_refl _, Nat.le_refl _⟩ (fun H locs hz => ?_)
      refine lv_iload_n hx hb dX2_islandFor_59 rfl (lv_at hl 4 rfl) ?_
      refine lv_icmp_ne (tgt := 82) hx hb dX2_islandFor_60 (by decide) (fun c20 => ?_) (fun c20 => ?_)
      · replace h := ite_f c20 h
        exact b82 k19 hk19 y1 y2 y3 y4 y5 y6 r11 r14 _ _ _ h hz (lv_sub hl [2, 3, 4, 5, 6, 7, 8, 1, 0] rfl)
      · replace h := ite_t c20 h
        refine lv_iload hx hb dX2_islandFor_63 (lv_at hl 1 rfl) ?_
        refine lv_iload_n hx hb dX2_islandFor_65 rfl (lv_at hl 3 rfl) ?_
        obtain ⟨r30, e32, h⟩ := bd1_e h
        refine zcallSNi (As := [.int r11, .int y1]) (rest := []) CF hKK (KX5_far (dC := dC) (dI := dI) (cI := cI) (cZ := cZ) (a := a) hok e32) ⟨va_cnB 2 hts gX2_islandFor_X5_far_n142 rfl rfl rfl hKK.2.2.2.2.2.2.2.2.2.2.2.2.2.2.2 (hts _ (List.mem_of_getElem? (i := 10) rfl)) cdX5_far.2 ⟨Nat.le_of_ble_eq_true rfl, Nat.le_of_ble_eq_true rfl⟩, hts _ (List.mem_of_getElem? (i := 9) rfl), trivial⟩ hz rfl hl.1 rfl (Nat.le_of_ble_eq_true rfl) dX2_islandFor_66 ⟨Nat.le_refl _, Nat.le_refl _⟩ (fun H locs hz => ?_)
        refine lv_aload_n hx hb dX2_islandFor_69 rfl (lv_at hl 2 rfl) ?_
        refine va_get (v := .ref (a 10)) hx hb hts inX2_islandFor_X2 hown hKK.1 hz.1 11 rfl rfl 1 (by decide) (hts _ (List.mem_of_getElem? (i := 2) rfl)) (fun _ h9 => h9) rfl dX2_islandFor_70 ?_
        refine lv_iconst (v := (1 : Int32)) hx hb dX2_islandFor_73 (by decide) ?_
        refine va_iald (f := (σ 10)) hx hb hKK.1 hz.1 10 0 rfl rfl (by decide : vp_inD (1 : Int32) 3) dX2_islandFor_74 ?_
        refine lv_icmp_gt (tgt := 82) hx hb dX2_islandFor_75 (by decide) (fun c33 => ?_) (fun c33 => ?_)
        · replace h := ite_t c33 h
          exact b82 k19 hk19 y1 y2 y3 y4 y5 y6 r11 r14 _ _ _ h hz (lv_sub hl [2, 3, 4, 5, 6, 7, 8, 1, 0] rfl)
        · replace h := ite_f c33 h
          refine lv_iconst (v := (1 : Int32)) hx hb dX2_islandFor_78 (by decide) ?_
          refine lv_goto (tgt := 83) hx hb dX2_islandFor_79 (by decide) ?_
          exact b83 k19 hk19 y1 y2 y3 y4 y5 y6 r11 r14 (1 : Int32) _ _ _ h hz (lv_sub hl [2, 3, 4, 5, 6, 7, 8, 1, 0] rfl)
  have l19 : ∀  (n : Nat), ∀ (y1 : Int32) (y2 : Int32) (y3 : Int32) (y4 : Int32) (y5 : Int32) (y6 : Int32) (H : Heap) (locs : List Loc) (ls : Array Slot), fX2_islandFor_l19 σ  n y1 y2 y3 y4 y5 y6 = some r → zz (dC, dI) 30 a (wdC cI cZ a σ) s.heap H locs → lv_has ls 11 [(0, .ref (a 11)), (1, .int y1), (2, .int y2), (3, .int y3), (4, .int y4), (5, .int y5), (6, .int y6)] → W p l e rmX2_islandFor s m args below meth c H locs 0 0 Q (F0 m 19 ls []) := by
    intro  n
    induction n with
    | zero => intro y1 y2 y3 y4 y5 y6 H locs ls h; exact nomatch h
    | succ n ih => exact s19  (fX2_islandFor_l19 σ  n) ih
  unfold fX2_islandFor at h
  refine lv_aload_n hx hb dX2_islandFor_0 rfl (lv_at hl 0 rfl) ?_
  refine lv_iload_n hx hb dX2_islandFor_1 rfl (lv_at hl 2 rfl) ?_
  obtain ⟨r1, e3, h⟩ := bd1_e h
  refine zcallVi (As := [.int x2]) (rest := []) CF hKK (KX2_labelAddress (dC := dC) (dI := dI) (cI := cI) (cZ := cZ) (a := a) hok e3) (cwV 1 hts gX2_islandFor_X2_labelAddress rfl rfl rfl cdX2_labelAddress ⟨Nat.le_of_ble_eq_true rfl, Nat.le_of_ble_eq_true rfl⟩) 11 2 rfl rfl hz rfl hl.1 rfl (Nat.le_of_ble_eq_true rfl) dX2_islandFor_2 ⟨Nat.le_refl _, Nat.le_refl _⟩ (fun H locs hz => ?_)
  refine lv_istore_n (lv' := [(3, .int r1), (0, .ref (a 11)), (1, .int x1), (2, .int x2)]) hx hb dX2_islandFor_5 rfl hl (by decide) rfl (fun ls hl => ?_)
  refine lv_iconst (v := (-1 : Int32)) hx hb dX2_islandFor_6 (by decide) ?_
  refine lv_istore (lv' := [(4, .int (-1 : Int32)), (3, .int r1), (0, .ref (a 11)), (1, .int x1), (2, .int x2)]) hx hb dX2_islandFor_7 hl (by decide) rfl (fun ls hl => ?_)
  refine lv_iload_n hx hb dX2_islandFor_9 rfl (lv_at hl 3 rfl) ?_
  refine lv_iload_n hx hb dX2_islandFor_10 rfl (lv_at hl 1 rfl) ?_
  obtain ⟨r4, e6, h⟩ := bd1_e h
  refine zcallSNi (As := [.int x1, .int r1]) (rest := []) CF hKK (KX5_far (dC := dC) (dI := dI) (cI := cI) (cZ := cZ) (a := a) hok e6) ⟨va_cnB 2 hts gX2_islandFor_X5_far_n142 rfl rfl rfl hKK.2.2.2.2.2.2.2.2.2.2.2.2.2.2.2 (hts _ (List.mem_of_getElem? (i := 10) rfl)) cdX5_far.2 ⟨Nat.le_of_ble_eq_true rfl, Nat.le_of_ble_eq_true rfl⟩, hts _ (List.mem_of_getElem? (i := 9) rfl), trivial⟩ hz rfl hl.1 rfl (Nat.le_of_ble_eq_true rfl) dX2_islandFor_11 ⟨Nat.le_refl _, Nat.le_refl _⟩ (fun H locs hz => ?_)
  refine lv_istore (lv' := [(5, .int r4), (4, .int (-1 : Int32)), (3, .int r1), (0, .ref (a 11)), (1, .int x1), (2, .int x2)]) hx hb dX2_islandFor_14 hl (by decide) rfl (fun ls hl => ?_)
  refine lv_iconst (v := (0 : Int32)) hx hb dX2_islandFor_16 (by decide) ?_
  refine lv_istore (lv' := [(6, .int (0 : Int32)), (5, .int r4), (4, .int (-1 : Int32)), (3, .int r1), (0, .ref (a 11)), (1, .int x1), (2, .int x2)]) hx hb dX2_islandFor_17 hl (by decide) rfl (fun ls hl => ?_)
  exact l19  FU x1 x2 r1 (-1 : Int32) r4 (0 : Int32) _ _ _ h hz (lv_sub hl [4, 5, 6, 3, 2, 1, 0] rfl)
def fX2_longAim (σ : St) (x1 : Int32) (x2 : Int32) : Option (Int32) :=
  (bd1 (fX2_goesStraight σ x1 x2) fun r1 => (if r1 = 0 then ((bd1 (fX2_islandFor σ x1 x2) fun r5 => (bd1 (fX4_addressOf_i σ r5) fun r8 => some r8))) else ((bd1 (fX2_labelAddress σ x2) fun r11 => some r11))))
abbrev rmX2_longAim : Room := { frames := 3, cells := 0, slots := 0, locals := 73 }
set_option maxHeartbeats 4000000 in
set_option maxRecDepth 100000 in
theorem KX2_longAim {l : Launch} {dC : Nat → ClassId} {dI : Nat → Nat → Nat} {cI cZ : ClassId} {a : Nat → Nat} {σ : St} {x1 : Int32} {x2 : Int32} {r : Int32} (hok : okA 30 a) (h : fX2_longAim σ x1 x2 = some r) (sz : Nat) : Met l yX2_longAim wsX2_longAim rmX2_longAim (Pz (dC, dI) cI cZ (wdC cI cZ a σ) sz [.ref (a 11), .int x1, .int x2]) (Qzi (dC, dI) 30 a (wdC cI cZ a σ) sz r) 0 0 (aN 30 a sz) := by
  refine Met.ofW (cc := cX2_longAim) (maxL := 3) (ret := (some .int)) (by decide) rfl ?_
  intro p e s m args below meth c s₁ B hml hv
  obtain ⟨hav, hsz, hP, hKK⟩ := hv
  have hx := B.exec
  have hb := B.bytes
  have hr := B.returns
  have hts := atoms_spec (ws := wsX2_longAim) B.pre
  have hown : s.vm.findClass RX2 = some m.cls := findClass_of_methodNamed B.named
  have hlocks := B.notSynchronized
  have CF : CallFix p m c cX2_longAim 3 s args wsX2_longAim RX2 := ⟨hx, hb, hml, hown, hts⟩
  have hz : zz (dC, dI) 30 a (wdC cI cZ a σ) s.heap s.heap [] := ⟨hP, va_S.rf⟩
  have hl := lv_entry [.ref (a 11), .int x1, .int x2] (n := 3) (Nat.le_of_ble_eq_true rfl)
  have hen : entryFrame m args 3 = entryFrame m ([.ref (a 11), .int x1, .int x2] : List Value).toArray 3 := by rw [hav]
  rw [hen, lg_entry_eq]
  generalize (lg_sl [.ref (a 11), .int x1, .int x2] ++ List.replicate (3 - (lg_sl [.ref (a 11), .int x1, .int x2]).length) Slot.unset).toArray = ls at hl ⊢
  have hl : lv_has ls 3 [(0, .ref (a 11)), (1, .int x1), (2, .int x2)] := hl
  have eR : (headSpec wsX2_longAim rmX2_longAim).room = rmX2_longAim := rfl
  rw [eR]
  have rt : ∀ (v : Int32) (t : St) (pc : Nat) (H : Heap) (locs : List Loc) (ls : Array Slot), decode cX2_longAim pc = .ok (.ireturn, 1) → some v = some r → zz (dC, dI) 30 a (wdC cI cZ a σ) s.heap H locs → W p l e rmX2_longAim s m args below meth c H locs 0 0 (MQ below (Qzi (dC, dI) 30 a (wdC cI cZ a σ) sz r) args s 0 0 (aN 30 a sz)) (F0 m pc ls [.int v]) := by
    intro v t pc H locs ls hd h hz
    cases h
    exact ziret hsz hx hb hr hlocks hz hd
  generalize (MQ below (Qzi (dC, dI) 30 a (wdC cI cZ a σ) sz r) args s 0 0 (aN 30 a sz)) = Q at rt ⊢
  unfold fX2_longAim at h
  refine lv_aload_n hx hb dX2_longAim_0 rfl (lv_at hl 0 rfl) ?_
  refine lv_iload_n hx hb dX2_longAim_1 rfl (lv_at hl 1 rfl) ?_
  refine lv_iload_n hx hb dX2_longAim_2 rfl (lv_at hl 2 rfl) ?_
  obtain ⟨r1, e3, h⟩ := bd1_e h
  refine zcallVi (As := [.int x1, .int x2]) (rest := []) CF hKK (KX2_goesStraight (dC := dC) (dI := dI) (cI := cI) (cZ := cZ) (a := a) hok e3) (cwV 2 hts gX2_longAim_X2_goesStraight rfl rfl rfl cdX2_goesStraight ⟨Nat.le_of_ble_eq_true rfl, Nat.le_of_ble_eq_true rfl⟩) 11 2 rfl rfl hz rfl hl.1 rfl (Nat.le_of_ble_eq_true rfl) dX2_longAim_3 ⟨Nat.le_refl _, Nat.le_refl _⟩ (fun H locs hz => ?_)
  refine lv_if_eq (tgt := 15) hx hb dX2_longAim_6 (by decide) (fun c4 => ?_) (fun c4 => ?_)
  · replace h := ite_t c4 h
    refine lv_aload_n hx hb dX2_longAim_15 rfl (lv_at hl 0 rfl) ?_
    refine va_get (v := .ref (a 12)) hx hb hts inX2_longAim_X2 hown hKK.1 hz.1 11 rfl rfl 2 (by decide) (hts _ (List.mem_of_getElem? (i := 1) rfl)) (fun _ h9 => h9) rfl dX2_longAim_16 ?_
    refine lv_aload_n hx hb dX2_longAim_19 rfl (lv_at hl 0 rfl) ?_
    refine lv_iload_n hx hb dX2_longAim_20 rfl (lv_at hl 1 rfl) ?_
    refine lv_iload_n hx hb dX2_longAim_21 rfl (lv_at hl 2 rfl) ?_
    obtain ⟨r5, e7, h⟩ := bd1_e h
    refine zcallVi (As := [.int x1, .int x2]) (rest := [.ref (a 12)]) CF hKK (KX2_islandFor (dC := dC) (dI := dI) (cI := cI) (cZ := cZ) (a := a) hok e7) (cwV 2 hts gX2_longAim_X2_islandFor rfl rfl rfl cdX2_islandFor ⟨Nat.le_of_ble_eq_true rfl, Nat.le_of_ble_eq_true rfl⟩) 11 2 rfl rfl hz rfl hl.1 rfl (Nat.le_of_ble_eq_true rfl) dX2_longAim_22 ⟨Nat.le_refl _, Nat.le_refl _⟩ (fun H locs hz => ?_)
    obtain ⟨r8, e10, h⟩ := bd1_e h
    refine zcallVi (As := [.int r5]) (rest := []) CF hKK (KX4_addressOf_i (dC := dC) (dI := dI) (cI := cI) (cZ := cZ) (a := a) hok e10) (cwV 1 hts gX2_longAim_X4_addressOf rfl rfl rfl cdX4_addressOf ⟨Nat.le_of_ble_eq_true rfl, Nat.le_of_ble_eq_true rfl⟩) 12 4 rfl rfl hz rfl hl.1 rfl (Nat.le_of_ble_eq_true rfl) dX2_longAim_25 ⟨Nat.le_refl _, Nat.le_refl _⟩ (fun H locs hz => ?_)
    exact rt r8 σ 28 _ _ _ dX2_longAim_28 h hz
  · replace h := ite_f c4 h
    refine lv_aload_n hx hb dX2_longAim_9 rfl (lv_at hl 0 rfl) ?_
    refine lv_iload_n hx hb dX2_longAim_10 rfl (lv_at hl 2 rfl) ?_
    obtain ⟨r11, e13, h⟩ := bd1_e h
    refine zcallVi (As := [.int x2]) (rest := []) CF hKK (KX2_labelAddress (dC := dC) (dI := dI) (cI := cI) (cZ := cZ) (a := a) hok e13) (cwV 1 hts gX2_longAim_X2_labelAddress rfl rfl rfl cdX2_labelAddress ⟨Nat.le_of_ble_eq_true rfl, Nat.le_of_ble_eq_true rfl⟩) 11 2 rfl rfl hz rfl hl.1 rfl (Nat.le_of_ble_eq_true rfl) dX2_longAim_11 ⟨Nat.le_refl _, Nat.le_refl _⟩ (fun H locs hz => ?_)
    exact rt r11 σ 14 _ _ _ dX2_longAim_14 h hz
def fX2_shortAim (σ : St) (x1 : Int32) (x2 : Int32) : Option (Int32) :=
  (bd1 (fX2_labelAddress σ x2) fun r1 => (bd1 (fX5_far σ x1 r1) fun r4 => (if ((σ 10) (Int32.toNatClampNeg (0 : Int32))) < r4 then (some (-1 : Int32)) else (some r1))))
abbrev rmX2_shortAim : Room := { frames := 1, cells := 0, slots := 0, locals := 21 }
set_option maxHeartbeats 4000000 in
set_option maxRecDepth 100000 in
theorem KX2_shortAim {l : Launch} {dC : Nat → ClassId} {dI : Nat → Nat → Nat} {cI cZ : ClassId} {a : Nat → Nat} {σ : St} {x1 : Int32} {x2 : Int32} {r : Int32} (hok : okA 30 a) (h : fX2_shortAim σ x1 x2 = some r) (sz : Nat) : Met l yX2_shortAim wsX2_shortAim rmX2_shortAim (Pz (dC, dI) cI cZ (wdC cI cZ a σ) sz [.ref (a 11), .int x1, .int x2]) (Qzi (dC, dI) 30 a (wdC cI cZ a σ) sz r) 0 0 (aN 30 a sz) := by
  refine Met.ofW (cc := cX2_shortAim) (maxL := 4) (ret := (some .int)) (by decide) rfl ?_
  intro p e s m args below meth c s₁ B hml hv
  obtain ⟨hav, hsz, hP, hKK⟩ := hv
  have hx := B.exec
  have hb := B.bytes
  have hr := B.returns
  have hts := atoms_spec (ws := wsX2_shortAim) B.pre
  have hown : s.vm.findClass RX2 = some m.cls := findClass_of_methodNamed B.named
  have hlocks := B.notSynchronized
  have CF : CallFix p m c cX2_shortAim 4 s args wsX2_shortAim RX2 := ⟨hx, hb, hml, hown, hts⟩
  have hz : zz (dC, dI) 30 a (wdC cI cZ a σ) s.heap s.heap [] := ⟨hP, va_S.rf⟩
  have hl := lv_entry [.ref (a 11), .int x1, .int x2] (n := 4) (Nat.le_of_ble_eq_true rfl)
  have hen : entryFrame m args 4 = entryFrame m ([.ref (a 11), .int x1, .int x2] : List Value).toArray 4 := by rw [hav]
  rw [hen, lg_entry_eq]
  generalize (lg_sl [.ref (a 11), .int x1, .int x2] ++ List.replicate (4 - (lg_sl [.ref (a 11), .int x1, .int x2]).length) Slot.unset).toArray = ls at hl ⊢
  have hl : lv_has ls 4 [(0, .ref (a 11)), (1, .int x1), (2, .int x2)] := hl
  have eR : (headSpec wsX2_shortAim rmX2_shortAim).room = rmX2_shortAim := rfl
  rw [eR]
  have rt : ∀ (v : Int32) (t : St) (pc : Nat) (H : Heap) (locs : List Loc) (ls : Array Slot), decode cX2_shortAim pc = .ok (.ireturn, 1) → some v = some r → zz (dC, dI) 30 a (wdC cI cZ a σ) s.heap H locs → W p l e rmX2_shortAim s m args below meth c H locs 0 0 (MQ below (Qzi (dC, dI) 30 a (wdC cI cZ a σ) sz r) args s 0 0 (aN 30 a sz)) (F0 m pc ls [.int v]) := by
    intro v t pc H locs ls hd h hz
    cases h
    exact ziret hsz hx hb hr hlocks hz hd
  generalize (MQ below (Qzi (dC, dI) 30 a (wdC cI cZ a σ) sz r) args s 0 0 (aN 30 a sz)) = Q at rt ⊢
  unfold fX2_shortAim at h
  refine lv_aload_n hx hb dX2_shortAim_0 rfl (lv_at hl 0 rfl) ?_
  refine lv_iload_n hx hb dX2_shortAim_1 rfl (lv_at hl 2 rfl) ?_
  obtain ⟨r1, e3, h⟩ := bd1_e h
  refine zcallVi (As := [.int x2]) (rest := []) CF hKK (KX2_labelAddress (dC := dC) (dI := dI) (cI := cI) (cZ := cZ) (a := a) hok e3) (cwV 1 hts gX2_shortAim_X2_labelAddress rfl rfl rfl cdX2_labelAddress ⟨Nat.le_of_ble_eq_true rfl, Nat.le_of_ble_eq_true rfl⟩) 11 2 rfl rfl hz rfl hl.1 rfl (Nat.le_of_ble_eq_true rfl) dX2_shortAim_2 ⟨Nat.le_refl _, Nat.le_refl _⟩ (fun H locs hz => ?_)
  refine lv_istore_n (lv' := [(3, .int r1), (0, .ref (a 11)), (1, .int x1), (2, .int x2)]) hx hb dX2_shortAim_5 rfl hl (by decide) rfl (fun ls hl => ?_)
  refine lv_iload_n hx hb dX2_shortAim_6 rfl (lv_at hl 2 rfl) ?_
  refine lv_iload_n hx hb dX2_shortAim_7 rfl (lv_at hl 0 rfl) ?_
  obtain ⟨r4, e6, h⟩ := bd1_e h
  refine zcallSNi (As := [.int x1, .int r1]) (rest := []) CF hKK (KX5_far (dC := dC) (dI := dI) (cI := cI) (cZ := cZ) (a := a) hok e6) ⟨va_cnB 2 hts gX2_shortAim_X5_far_n142 rfl rfl rfl hKK.2.2.2.2.2.2.2.2.2.2.2.2.2.2.2 (hts _ (List.mem_of_getElem? (i := 9) rfl)) cdX5_far.2 ⟨Nat.le_of_ble_eq_true rfl, Nat.le_of_ble_eq_true rfl⟩, hts _ (List.mem_of_getElem? (i := 8) rfl), trivial⟩ hz rfl hl.1 rfl (Nat.le_of_ble_eq_true rfl) dX2_shortAim_8 ⟨Nat.le_refl _, Nat.le_refl _⟩ (fun H locs hz => ?_)
  refine lv_aload_n hx hb dX2_shortAim_11 rfl (lv_at hl 1 rfl) ?_
  refine va_get (v := .ref (a 10)) hx hb hts inX2_shortAim_X2 hown hKK.1 hz.1 11 rfl rfl 1 (by decide) (hts _ (List.mem_of_getElem? (i := 1) rfl)) (fun _ h9 => h9) rfl dX2_shortAim_12 ?_
  refine lv_iconst (v := (0 : Int32)) hx hb dX2_shortAim_15 (by decide) ?_
  refine va_iald (f := (σ 10)) hx hb hKK.1 hz.1 10 0 rfl rfl (by decide : vp_inD (0 : Int32) 3) dX2_shortAim_16 ?_
  refine lv_icmp_gt (tgt := 24) hx hb dX2_shortAim_17 (by decide) (fun c7 => ?_) (fun c7 => ?_)
  · replace h := ite_t c7 h
    refine lv_iconst (v := (-1 : Int32)) hx hb dX2_shortAim_24 (by decide) ?_
    exact rt (-1 : Int32) σ 25 _ _ _ dX2_shortAim_25 h hz
  · replace h := ite_f c7 h
    refine lv_iload_n hx hb dX2_shortAim_20 rfl (lv_at hl 0 rfl) ?_
    refine lv_goto (tgt := 25) hx hb dX2_shortAim_21 (by decide) ?_
    exact rt r1 σ 25 _ _ _ dX2_shortAim_25 h hz
def fX2_aimItems_b126 (k2 : St → Int32 → Option (St)) (σ : St) (y1 : Int32) (t0 : Int32) (t1 : Int32) : Option (St) :=
  (ck (¬ (t1 < 0 ∨ 24 ≤ Int32.toNatClampNeg t1)) <| k2 (sa σ 28 (Int32.toNatClampNeg t1) t0) (y1 + (1 : Int32)))
def fX2_aimItems_s2 (k2 : St → Int32 → Option (St)) (σ : St) (y1 : Int32) : Option (St) :=
  (bd1 (fX0_size_p σ ) fun r1 => (if r1 ≤ y1 then (some σ) else ((if (24 : Int32) ≤ y1 then (some σ) else ((bd1 (fX0_toldOf_p σ y1) fun r6 => (bd1 (fX0_kindOf_p σ y1) fun r9 => (if r9 = (1 : Int32) then ((bd1 (fX2_addressOf σ y1) fun r13 => (bd1 (fX2_constantFor σ r13 r6) fun r16 => (bd1 (fX4_addressOf_c σ r16) fun r19 => (ck (¬ (y1 < 0 ∨ 24 ≤ Int32.toNatClampNeg y1)) <| k2 (sa σ 28 (Int32.toNatClampNeg y1) r19) (y1 + (1 : Int32))))))) else (if r9 = (2 : Int32) then ((bd1 (fX2_isLong σ y1) fun r24 => (if r24 = 0 then ((bd1 (fX2_addressOf σ y1) fun r28 => (bd1 (fX2_shortAim σ r28 r6) fun r31 => fX2_aimItems_b126 k2 σ y1 r31 y1))) else ((bd1 (fX2_addressOf σ y1) fun r35 => (bd1 (fX2_longAim σ r35 r6) fun r38 => fX2_aimItems_b126 k2 σ y1 r38 y1)))))) else (ck (¬ (y1 < 0 ∨ 24 ≤ Int32.toNatClampNeg y1)) <| k2 (sa σ 28 (Int32.toNatClampNeg y1) (-1 : Int32)) (y1 + (1 : Int32))))))))))))
def fX2_aimItems_l2  : Nat → St → Int32 → Option (St) :=
  itr (fX2_aimItems_s2 ) (fun _ _ => none)
def fX2_aimItems (σ : St)  : Option (St) :=
  fX2_aimItems_l2  FU σ (0 : Int32)
abbrev rmX2_aimItems : Room := { frames := 4, cells := 0, slots := 0, locals := 95 }
set_option maxHeartbeats 4000000 in
set_option maxRecDepth 100000 in
theorem KX2_aimItems {l : Launch} {dC : Nat → ClassId} {dI : Nat → Nat → Nat} {cI cZ : ClassId} {a : Nat → Nat} {σ : St}  {σ2 : St} (hok : okA 30 a) (h : fX2_aimItems σ  = some σ2) (sz : Nat) : Met l yX2_aimItems wsX2_aimItems rmX2_aimItems (Pz (dC, dI) cI cZ (wdC cI cZ a σ) sz [.ref (a 11)]) (Qzv (dC, dI) 30 a (wdC cI cZ a σ2) sz) 0 0 (aN 30 a sz) := by
  refine Met.ofW (cc := cX2_aimItems) (maxL := 3) (ret := none) (by decide) rfl ?_
  intro p e s m args below meth c s₁ B hml hv
  obtain ⟨hav, hsz, hP, hKK⟩ := hv
  have hx := B.exec
  have hb := B.bytes
  have hr := B.returns
  have hts := atoms_spec (ws := wsX2_aimItems) B.pre
  have hown : s.vm.findClass RX2 = some m.cls := findClass_of_methodNamed B.named
  have hlocks := B.notSynchronized
  have CF : CallFix p m c cX2_aimItems 3 s args wsX2_aimItems RX2 := ⟨hx, hb, hml, hown, hts⟩
  have hz : zz (dC, dI) 30 a (wdC cI cZ a σ) s.heap s.heap [] := ⟨hP, va_S.rf⟩
  have hl := lv_entry [.ref (a 11)] (n := 3) (Nat.le_of_ble_eq_true rfl)
  have hen : entryFrame m args 3 = entryFrame m ([.ref (a 11)] : List Value).toArray 3 := by rw [hav]
  rw [hen, lg_entry_eq]
  generalize (lg_sl [.ref (a 11)] ++ List.replicate (3 - (lg_sl [.ref (a 11)]).length) Slot.unset).toArray = ls at hl ⊢
  have hl : lv_has ls 3 [(0, .ref (a 11))] := hl
  have eR : (headSpec wsX2_aimItems rmX2_aimItems).room = rmX2_aimItems := rfl
  rw [eR]
  have rt : ∀ (t : St) (pc : Nat) (H : Heap) (locs : List Loc) (ls : Array Slot), decode cX2_aimItems pc = .ok (.return_, 1) → some t = some σ2 → zz (dC, dI) 30 a (wdC cI cZ a t) s.heap H locs → W p l e rmX2_aimItems s m args below meth c H locs 0 0 (MQ below (Qzv (dC, dI) 30 a (wdC cI cZ a σ2) sz) args s 0 0 (aN 30 a sz)) (F0 m pc ls []) := by
    intro t pc H locs ls hd h hz
    cases h
    exact zvret hsz hx hb hr hlocks hz hd
  generalize (MQ below (Qzv (dC, dI) 30 a (wdC cI cZ a σ2) sz) args s 0 0 (aN 30 a sz)) = Q at rt ⊢
  have b126 : ∀ (k2 : St → Int32 → Option (St)) (hk2 : (∀ (σ : St) (y1 : Int32) (H : Heap) (locs : List Loc) (ls : Array Slot), k2 σ y1 = some σ2 → zz (dC, dI) 30 a (wdC cI cZ a σ) s.heap H locs → lv_has ls 3 [(0, .ref (a 11)), (1, .int y1)] → W p l e rmX2_aimItems s m args below meth c H locs 0 0 Q (F0 m 2 ls []))) (σ : St) (y1 : Int32) (t0 : Int32) (t1 : Int32) (H : Heap) (locs : List Loc) (ls : Array Slot), fX2_aimItems_b126 k2 σ y1 t0 t1 = some σ2 → zz (dC, dI) 30 a (wdC cI cZ a σ) s.heap H locs → lv_has ls 3 [(0, .ref (a 11)), (1, .int y1)] → W p l e rmX2_aimItems s m args below meth c H locs 0 0 Q (F0 m 126 ls [.int t0, .int t1, .ref (a 28)]) := by
    intro k2 hk2 σ y1 t0 t1 H locs ls h hz hl
    unfold fX2_aimItems_b126 at h
    obtain ⟨c34, h⟩ := ck_e h
    refine ziast (f := σ 28) (w' := wdC cI cZ a (sa σ 28 (Int32.toNatClampNeg t1) t0)) hx hb hKK hok wkC hz 28 rfl c34 setCa_28 dX2_aimItems_126 (fun H locs hz => ?_)
    refine lv_goto (tgt := 137) hx hb dX2_aimItems_127 (by decide) ?_
    refine lv_iinc (v := (y1 + (1 : Int32))) (lv' := [(1, .int (y1 + (1 : Int32))), (0, .ref (a 11))]) hx hb dX2_aimItems_137 hl (k := 1) rfl rfl (by decide) rfl (fun ls hl => ?_)
    refine lv_goto (tgt := 2) hx hb dX2_aimItems_140 (by decide) ?_
    exact hk2 (sa σ 28 (Int32.toNatClampNeg t1) t0) (y1 + (1 : Int32)) _ _ _ h hz (lv_sub hl [1, 0] rfl)
  have s2 : ∀ (k2 : St → Int32 → Option (St)) (hk2 : (∀ (σ : St) (y1 : Int32) (H : Heap) (locs : List Loc) (ls : Array Slot), k2 σ y1 = some σ2 → zz (dC, dI) 30 a (wdC cI cZ a σ) s.heap H locs → lv_has ls 3 [(0, .ref (a 11)), (1, .int y1)] → W p l e rmX2_aimItems s m args below meth c H locs 0 0 Q (F0 m 2 ls []))) (σ : St) (y1 : Int32) (H : Heap) (locs : List Loc) (ls : Array Slot), fX2_aimItems_s2 k2 σ y1 = some σ2 → zz (dC, dI) 30 a (wdC cI cZ a σ) s.heap H locs → lv_has ls 3 [(0, .ref (a 11)), (1, .int y1)] → W p l e rmX2_aimItems s m args below meth c H locs 0 0 Q (F0 m 2 ls []) := by
    intro k2 hk2 σ y1 H locs ls h hz hl
    unfold fX2_aimItems_s2 at h
    refine lv_iload_n hx hb dX2_aimItems_2 rfl (lv_at hl 1 rfl) ?_
    refine lv_aload_n hx hb dX2_aimItems_3 rfl (lv_at hl 0 rfl) ?_
    refine va_get (v := .ref (a 7)) hx hb hts inX2_aimItems_X2 hown hKK.1 hz.1 11 rfl rfl 0 (by decide) (hts _ (List.mem_of_getElem? (i := 1) rfl)) (fun _ h9 => h9) rfl dX2_aimItems_4 ?_
    obtain ⟨r1, e3, h⟩ := bd1_e h
    refine zcallVi (As := []) (rest := [.int y1]) CF hKK (KX0_size_p (dC := dC) (dI := dI) (cI := cI) (cZ := cZ) (a := a) hok e3) (cwV 0 hts gX2_aimItems_X0_size rfl rfl rfl cdX0_size ⟨Nat.le_of_ble_eq_true rfl, Nat.le_of_ble_eq_true rfl⟩) 7 0 rfl rfl hz rfl hl.1 rfl (Nat.le_of_ble_eq_true rfl) dX2_aimItems_7 ⟨Nat.le_refl _, Nat.le_refl _⟩ (fun H locs hz => ?_)
    refine lv_icmp_ge (tgt := 143) hx hb dX2_aimItems_10 (by decide) (fun c4 => ?_) (fun c4 => ?_)
    · replace h := ite_t c4 h
      exact rt σ 143 _ _ _ dX2_aimItems_143 h hz
    · replace h := ite_f c4 h
      refine lv_iload_n hx hb dX2_aimItems_13 rfl (lv_at hl 1 rfl) ?_
      refine lv_aload_n hx hb dX2_aimItems_14 rfl (lv_at hl 0 rfl) ?_
      refine va_get (v := .ref (a 28)) hx hb hts inX2_aimItems_X2 hown hKK.1 hz.1 11 rfl rfl 8 (by decide) (hts _ (List.mem_of_getElem? (i := 2) rfl)) (fun _ h9 => h9) rfl dX2_aimItems_15 ?_
      refine va_alen (v := (24 : Int32)) hx hb hKK.1 hz.1 28 0 rfl rfl rfl dX2_aimItems_18 ?_
      refine lv_icmp_ge (tgt := 143) hx hb dX2_aimItems_19 (by decide) (fun c5 => ?_) (fun c5 => ?_)
      · replace h := ite_t c5 h
        exact rt σ 143 _ _ _ dX2_aimItems_143 h hz
      · replace h := ite_f c5 h
        refine lv_aload_n hx hb dX2_aimItems_22 rfl (lv_at hl 0 rfl) ?_
        refine va_get (v := .ref (a 7)) hx hb hts inX2_aimItems_X2 hown hKK.1 hz.1 11 rfl rfl 0 (by decide) (hts _ (List.mem_of_getElem? (i := 1) rfl)) (fun _ h9 => h9) rfl dX2_aimItems_23 ?_
        refine lv_iload_n hx hb dX2_aimItems_26 rfl (lv_at hl 1 rfl) ?_
        obtain ⟨r6, e8, h⟩ := bd1_e h
        refine zcallVi (As := [.int y1]) (rest := []) CF hKK (KX0_toldOf_p (dC := dC) (dI := dI) (cI := cI) (cZ := cZ) (a := a) hok e8) (cwV 1 hts gX2_aimItems_X0_toldOf rfl rfl rfl cdX0_toldOf ⟨Nat.le_of_ble_eq_true rfl, Nat.le_of_ble_eq_true rfl⟩) 7 0 rfl rfl hz rfl hl.1 rfl (Nat.le_of_ble_eq_true rfl) dX2_aimItems_27 ⟨Nat.le_refl _, Nat.le_refl _⟩ (fun H locs hz => ?_)
        refine lv_istore_n (lv' := [(2, .int r6), (0, .ref (a 11)), (1, .int y1)]) hx hb dX2_aimItems_30 rfl hl (by decide) rfl (fun ls hl => ?_)
        refine lv_aload_n hx hb dX2_aimItems_31 rfl (lv_at hl 1 rfl) ?_
        refine va_get (v := .ref (a 7)) hx hb hts inX2_aimItems_X2 hown hKK.1 hz.1 11 rfl rfl 0 (by decide) (hts _ (List.mem_of_getElem? (i := 1) rfl)) (fun _ h9 => h9) rfl dX2_aimItems_32 ?_
        refine lv_iload_n hx hb dX2_aimItems_35 rfl (lv_at hl 2 rfl) ?_
        obtain ⟨r9, e11, h⟩ := bd1_e h
        refine zcallVi (As := [.int y1]) (rest := []) CF hKK (KX0_kindOf_p (dC := dC) (dI := dI) (cI := cI) (cZ := cZ) (a := a) hok e11) (cwV 1 hts gX2_aimItems_X0_kindOf rfl rfl rfl cdX0_kindOf ⟨Nat.le_of_ble_eq_true rfl, Nat.le_of_ble_eq_true rfl⟩) 7 0 rfl rfl hz rfl hl.1 rfl (Nat.le_of_ble_eq_true rfl) dX2_aimItems_36 ⟨Nat.le_refl _, Nat.le_refl _⟩ (fun H locs hz => ?_)
        by_cases c12 : r9 = (1 : Int32)
        · replace h := ite_t c12 h
          refine lv_lookup (tgt := 64) (off := 25) hx hb dX2_aimItems_39 (by decide) (by rw [c12]; rfl) (by decide) ?_
          refine lv_aload_n hx hb dX2_aimItems_64 rfl (lv_at hl 1 rfl) ?_
          refine va_get (v := .ref (a 28)) hx hb hts inX2_aimItems_X2 hown hKK.1 hz.1 11 rfl rfl 8 (by decide) (hts _ (List.mem_of_getElem? (i := 2) rfl)) (fun _ h9 => h9) rfl dX2_aimItems_65 ?_
          refine lv_iload_n hx hb dX2_aimItems_68 rfl (lv_at hl 2 rfl) ?_
          refine lv_aload_n hx hb dX2_aimItems_69 rfl (lv_at hl 1 rfl) ?_
          refine va_get (v := .ref (a 18)) hx hb hts inX2_aimItems_X2 hown hKK.1 hz.1 11 rfl rfl 3 (by decide) (hts _ (List.mem_of_getElem? (i := 3) rfl)) (fun _ h9 => h9) rfl dX2_aimItems_70 ?_
          refine lv_aload_n hx hb dX2_aimItems_73 rfl (lv_at hl 1 rfl) ?_
          refine lv_aload_n hx hb dX2_aimItems_74 rfl (lv_at hl 1 rfl) ?_
          refine lv_iload_n hx hb dX2_aimItems_75 rfl (lv_at hl 2 rfl) ?_
          obtain ⟨r13, e15, h⟩ := bd1_e h
          refine zcallVi (As := [.int y1]) (rest := [.ref (a 11), .ref (a 18), .int y1, .ref (a 28)]) CF hKK (KX2_addressOf (dC := dC) (dI := dI) (cI := cI) (cZ := cZ) (a := a) hok e15) (cwV 1 hts gX2_aimItems_X2_addressOf rfl rfl rfl cdX2_addressOf ⟨Nat.le_of_ble_eq_true rfl, Nat.le_of_ble_eq_true rfl⟩) 11 2 rfl rfl hz rfl hl.1 rfl (Nat.le_of_ble_eq_true rfl) dX2_aimItems_76 ⟨Nat.le_refl _, Nat.le_refl _⟩ (fun H locs hz => ?_)
          refine lv_iload_n hx hb dX2_aimItems_79 rfl (lv_at hl 0 rfl) ?_
          obtain ⟨r16, e18, h⟩ := bd1_e h
          refine zcallVi (As := [.int r13, .int r6]) (rest := [.ref (a 18), .int y1, .ref (a 28)]) CF hKK (KX2_constantFor (dC := dC) (dI := dI) (cI := cI) (cZ := cZ) (a := a) hok e18) (cwV 2 hts gX2_aimItems_X2_constantFor rfl rfl rfl cdX2_constantFor ⟨Nat.le_of_ble_eq_true rfl, Nat.le_of_ble_eq_true rfl⟩) 11 2 rfl rfl hz rfl hl.1 rfl (Nat.le_of_ble_eq_true rfl) dX2_aimItems_80 ⟨Nat.le_refl _, Nat.le_refl _⟩ (fun H locs hz => ?_)
          obtain ⟨r19, e21, h⟩ := bd1_e h
          refine zcallVi (As := [.int r16]) (rest := [.int y1, .ref (a 28)]) CF hKK (KX4_addressOf_c (dC := dC) (dI := dI) (cI := cI) (cZ := cZ) (a := a) hok e21) (cwV 1 hts gX2_aimItems_X4_addressOf rfl rfl rfl cdX4_addressOf ⟨Nat.le_of_ble_eq_true rfl, Nat.le_of_ble_eq_true rfl⟩) 18 4 rfl rfl hz rfl hl.1 rfl (Nat.le_of_ble_eq_true rfl) dX2_aimItems_83 ⟨Nat.le_refl _, Nat.le_refl _⟩ (fun H locs hz => ?_)
          obtain ⟨c22, h⟩ := ck_e h
          refine ziast (f := σ 28) (w' := wdC cI cZ a (sa σ 28 (Int32.toNatClampNeg y1) r19)) hx hb hKK hok wkC hz 28 rfl c22 setCa_28 dX2_aimItems_86 (fun H locs hz => ?_)
          refine lv_goto (tgt := 137) hx hb dX2_aimItems_87 (by decide) ?_
          refine lv_iinc (v := (y1 + (1 : Int32))) (lv' := [(1, .int (y1 + (1 : Int32))), (2, .int r6), (0, .ref (a 11))]) hx hb dX2_aimItems_137 hl (k := 2) rfl rfl (by decide) rfl (fun ls hl => ?_)
          refine lv_goto (tgt := 2) hx hb dX2_aimItems_140 (by decide) ?_
          exact hk2 (sa σ 28 (Int32.toNatClampNeg y1) r19) (y1 + (1 : Int32)) _ _ _ h hz (lv_sub hl [2, 0] rfl)
        replace h := ite_f c12 h
        by_cases c23 : r9 = (2 : Int32)
        · replace h := ite_t c23 h
          refine lv_lookup (tgt := 90) (off := 51) hx hb dX2_aimItems_39 (by decide) (by rw [c23]; rfl) (by decide) ?_
          refine lv_aload_n hx hb dX2_aimItems_90 rfl (lv_at hl 1 rfl) ?_
          refine va_get (v := .ref (a 28)) hx hb hts inX2_aimItems_X2 hown hKK.1 hz.1 11 rfl rfl 8 (by decide) (hts _ (List.mem_of_getElem? (i := 2) rfl)) (fun _ h9 => h9) rfl dX2_aimItems_91 ?_
          refine lv_iload_n hx hb dX2_aimItems_94 rfl (lv_at hl 2 rfl) ?_
          refine lv_aload_n hx hb dX2_aimItems_95 rfl (lv_at hl 1 rfl) ?_
          refine lv_iload_n hx hb dX2_aimItems_96 rfl (lv_at hl 2 rfl) ?_
          obtain ⟨r24, e26, h⟩ := bd1_e h
          refine zcallVi (As := [.int y1]) (rest := [.int y1, .ref (a 28)]) CF hKK (KX2_isLong (dC := dC) (dI := dI) (cI := cI) (cZ := cZ) (a := a) hok e26) (cwV 1 hts gX2_aimItems_X2_isLong rfl rfl rfl cdX2_isLong ⟨Nat.le_of_ble_eq_true rfl, Nat.le_of_ble_eq_true rfl⟩) 11 2 rfl rfl hz rfl hl.1 rfl (Nat.le_of_ble_eq_true rfl) dX2_aimItems_97 ⟨Nat.le_refl _, Nat.le_refl _⟩ (fun H locs hz => ?_)
          refine lv_if_eq (tgt := 116) hx hb dX2_aimItems_100 (by decide) (fun c27 => ?_) (fun c27 => ?_)
          · replace h := ite_t c27 h
            refine lv_aload_n hx hb dX2_aimItems_116 rfl (lv_at hl 1 rfl) ?_
            refine lv_aload_n hx hb dX2_aimItems_117 rfl (lv_at hl 1 rfl) ?_
            refine lv_iload_n hx hb dX2_aimItems_118 rfl (lv_at hl 2 rfl) ?_
            obtain ⟨r28, e30, h⟩ := bd1_e h
            refine zcallVi (As := [.int y1]) (rest := [.ref (a 11), .int y1, .ref (a 28)]) CF hKK (KX2_addressOf (dC := dC) (dI := dI) (cI := cI) (cZ := cZ) (a := a) hok e30) (cwV 1 hts gX2_aimItems_X2_addressOf rfl rfl rfl cdX2_addressOf ⟨Nat.le_of_ble_eq_true rfl, Nat.le_of_ble_eq_true rfl⟩) 11 2 rfl rfl hz rfl hl.1 rfl (Nat.le_of_ble_eq_true rfl) dX2_aimItems_119 ⟨Nat.le_refl _, Nat.le_refl _⟩ (fun H locs hz => ?_)
            refine lv_iload_n hx hb dX2_aimItems_122 rfl (lv_at hl 0 rfl) ?_
            obtain ⟨r31, e33, h⟩ := bd1_e h
            refine zcallVi (As := [.int r28, .int r6]) (rest := [.int y1, .ref (a 28)]) CF hKK (KX2_shortAim (dC := dC) (dI := dI) (cI := cI) (cZ := cZ) (a := a) hok e33) (cwV 2 hts gX2_aimItems_X2_shortAim rfl rfl rfl cdX2_shortAim ⟨Nat.le_of_ble_eq_true rfl, Nat.le_of_ble_eq_true rfl⟩) 11 2 rfl rfl hz rfl hl.1 rfl (Nat.le_of_ble_eq_true rfl) dX2_aimItems_123 ⟨Nat.le_refl _, Nat.le_refl _⟩ (fun H locs hz => ?_)
            exact b126 k2 hk2 σ y1 r31 y1 _ _ _ h hz (lv_sub hl [1, 2] rfl)
          · replace h := ite_f c27 h
            refine lv_aload_n hx hb dX2_aimItems_103 rfl (lv_at hl 1 rfl) ?_
            refine lv_aload_n hx hb dX2_aimItems_104 rfl (lv_at hl 1 rfl) ?_
            refine lv_iload_n hx hb dX2_aimItems_105 rfl (lv_at hl 2 rfl) ?_
            obtain ⟨r35, e37, h⟩ := bd1_e h
            refine zcallVi (As := [.int y1]) (rest := [.ref (a 11), .int y1, .ref (a 28)]) CF hKK (KX2_addressOf (dC := dC) (dI := dI) (cI := cI) (cZ := cZ) (a := a) hok e37) (cwV 1 hts gX2_aimItems_X2_addressOf rfl rfl rfl cdX2_addressOf ⟨Nat.le_of_ble_eq_true rfl, Nat.le_of_ble_eq_true rfl⟩) 11 2 rfl rfl hz rfl hl.1 rfl (Nat.le_of_ble_eq_true rfl) dX2_aimItems_106 ⟨Nat.le_refl _, Nat.le_refl _⟩ (fun H locs hz => ?_)
            refine lv_iload_n hx hb dX2_aimItems_109 rfl (lv_at hl 0 rfl) ?_
            obtain ⟨r38, e40, h⟩ := bd1_e h
            refine zcallVi (As := [.int r35, .int r6]) (rest := [.int y1, .ref (a 28)]) CF hKK (KX2_longAim (dC := dC) (dI := dI) (cI := cI) (cZ := cZ) (a := a) hok e40) (cwV 2 hts gX2_aimItems_X2_longAim rfl rfl rfl cdX2_longAim ⟨Nat.le_of_ble_eq_true rfl, Nat.le_of_ble_eq_true rfl⟩) 11 2 rfl rfl hz rfl hl.1 rfl (Nat.le_of_ble_eq_true rfl) dX2_aimItems_110 ⟨Nat.le_refl _, Nat.le_refl _⟩ (fun H locs hz => ?_)
            refine lv_goto (tgt := 126) hx hb dX2_aimItems_113 (by decide) ?_
            exact b126 k2 hk2 σ y1 r38 y1 _ _ _ h hz (lv_sub hl [1, 2] rfl)
        replace h := ite_f c23 h
        refine lv_lookup (tgt := 130) (off := 91) hx hb dX2_aimItems_39 (by decide) (by show Op.lookupswitch.offset [(1, 25), (2, 51)] 91 _ = _; rw [lv_osw c12 (a := 1) rfl, lv_osw c23 (a := 2) rfl]; rfl) (by decide) ?_
        refine lv_aload_n hx hb dX2_aimItems_130 rfl (lv_at hl 1 rfl) ?_
        refine va_get (v := .ref (a 28)) hx hb hts inX2_aimItems_X2 hown hKK.1 hz.1 11 rfl rfl 8 (by decide) (hts _ (List.mem_of_getElem? (i := 2) rfl)) (fun _ h9 => h9) rfl dX2_aimItems_131 ?_
        refine lv_iload_n hx hb dX2_aimItems_134 rfl (lv_at hl 2 rfl) ?_
        refine lv_iconst (v := (-1 : Int32)) hx hb dX2_aimItems_135 (by decide) ?_
        obtain ⟨c41, h⟩ := ck_e h
        refine ziast (f := σ 28) (w' := wdC cI cZ a (sa σ 28 (Int32.toNatClampNeg y1) (-1 : Int32))) hx hb hKK hok wkC hz 28 rfl c41 setCa_28 dX2_aimItems_136 (fun H locs hz => ?_)
        refine lv_iinc (v := (y1 + (1 : Int32))) (lv' := [(1, .int (y1 + (1 : Int32))), (2, .int r6), (0, .ref (a 11))]) hx hb dX2_aimItems_137 hl (k := 2) rfl rfl (by decide) rfl (fun ls hl => ?_)
        refine lv_goto (tgt := 2) hx hb dX2_aimItems_140 (by decide) ?_
        exact hk2 (sa σ 28 (Int32.toNatClampNeg y1) (-1 : Int32)) (y1 + (1 : Int32)) _ _ _ h hz (lv_sub hl [2, 0] rfl)
  have l2 : ∀  (n : Nat), ∀ (σ : St) (y1 : Int32) (H : Heap) (locs : List Loc) (ls : Array Slot), fX2_aimItems_l2  n σ y1 = some σ2 → zz (dC, dI) 30 a (wdC cI cZ a σ) s.heap H locs → lv_has ls 3 [(0, .ref (a 11)), (1, .int y1)] → W p l e rmX2_aimItems s m args below meth c H locs 0 0 Q (F0 m 2 ls []) := by
    intro  n
    induction n with
    | zero => intro σ y1 H locs ls h; exact nomatch h
    | succ n ih => exact s2  (fX2_aimItems_l2  n) ih
  unfold fX2_aimItems at h
  refine lv_iconst (v := (0 : Int32)) hx hb dX2_aimItems_0 (by decide) ?_
  refine lv_istore_n (lv' := [(1, .int (0 : Int32)), (0, .ref (a 11))]) hx hb dX2_aimItems_1 rfl hl (by decide) rfl (fun ls hl => ?_)
  exact l2  FU σ (0 : Int32) _ _ _ h hz (lv_sub hl [1, 0] rfl)
def fX2_aimIslands_s2 (k2 : St → Int32 → Option (St)) (σ : St) (y1 : Int32) : Option (St) :=
  (bd1 (fX4_size_i σ ) fun r1 => (if r1 ≤ y1 then (some σ) else ((if (12 : Int32) ≤ y1 then (some σ) else ((bd1 (fX4_addressOf_i σ y1) fun r6 => (bd1 (fX4_nameOf_i σ y1) fun r9 => (bd1 (fX2_longAim σ r6 r9) fun r12 => (ck (¬ (y1 < 0 ∨ 12 ≤ Int32.toNatClampNeg y1)) <| k2 (sa σ 29 (Int32.toNatClampNeg y1) r12) (y1 + (1 : Int32)))))))))))
def fX2_aimIslands_l2  : Nat → St → Int32 → Option (St) :=
  itr (fX2_aimIslands_s2 ) (fun _ _ => none)
def fX2_aimIslands (σ : St)  : Option (St) :=
  fX2_aimIslands_l2  FU σ (0 : Int32)
abbrev rmX2_aimIslands : Room := { frames := 4, cells := 0, slots := 0, locals := 95 }
set_option maxHeartbeats 4000000 in
set_option maxRecDepth 100000 in
theorem KX2_aimIslands {l : Launch} {dC : Nat → ClassId} {dI : Nat → Nat → Nat} {cI cZ : ClassId} {a : Nat → Nat} {σ : St}  {σ2 : St} (hok : okA 30 a) (h : fX2_aimIslands σ  = some σ2) (sz : Nat) : Met l yX2_aimIslands wsX2_aimIslands rmX2_aimIslands (Pz (dC, dI) cI cZ (wdC cI cZ a σ) sz [.ref (a 11)]) (Qzv (dC, dI) 30 a (wdC cI cZ a σ2) sz) 0 0 (aN 30 a sz) := by
  refine Met.ofW (cc := cX2_aimIslands) (maxL := 2) (ret := none) (by decide) rfl ?_
  intro p e s m args below meth c s₁ B hml hv
  obtain ⟨hav, hsz, hP, hKK⟩ := hv
  have hx := B.exec
  have hb := B.bytes
  have hr := B.returns
  have hts := atoms_spec (ws := wsX2_aimIslands) B.pre
  have hown : s.vm.findClass RX2 = some m.cls := findClass_of_methodNamed B.named
  have hlocks := B.notSynchronized
  have CF : CallFix p m c cX2_aimIslands 2 s args wsX2_aimIslands RX2 := ⟨hx, hb, hml, hown, hts⟩
  have hz : zz (dC, dI) 30 a (wdC cI cZ a σ) s.heap s.heap [] := ⟨hP, va_S.rf⟩
  have hl := lv_entry [.ref (a 11)] (n := 2) (Nat.le_of_ble_eq_true rfl)
  have hen : entryFrame m args 2 = entryFrame m ([.ref (a 11)] : List Value).toArray 2 := by rw [hav]
  rw [hen, lg_entry_eq]
  generalize (lg_sl [.ref (a 11)] ++ List.replicate (2 - (lg_sl [.ref (a 11)]).length) Slot.unset).toArray = ls at hl ⊢
  have hl : lv_has ls 2 [(0, .ref (a 11))] := hl
  have eR : (headSpec wsX2_aimIslands rmX2_aimIslands).room = rmX2_aimIslands := rfl
  rw [eR]
  have rt : ∀ (t : St) (pc : Nat) (H : Heap) (locs : List Loc) (ls : Array Slot), decode cX2_aimIslands pc = .ok (.return_, 1) → some t = some σ2 → zz (dC, dI) 30 a (wdC cI cZ a t) s.heap H locs → W p l e rmX2_aimIslands s m args below meth c H locs 0 0 (MQ below (Qzv (dC, dI) 30 a (wdC cI cZ a σ2) sz) args s 0 0 (aN 30 a sz)) (F0 m pc ls []) := by
    intro t pc H locs ls hd h hz
    cases h
    exact zvret hsz hx hb hr hlocks hz hd
  generalize (MQ below (Qzv (dC, dI) 30 a (wdC cI cZ a σ2) sz) args s 0 0 (aN 30 a sz)) = Q at rt ⊢
  have s2 : ∀ (k2 : St → Int32 → Option (St)) (hk2 : (∀ (σ : St) (y1 : Int32) (H : Heap) (locs : List Loc) (ls : Array Slot), k2 σ y1 = some σ2 → zz (dC, dI) 30 a (wdC cI cZ a σ) s.heap H locs → lv_has ls 2 [(0, .ref (a 11)), (1, .int y1)] → W p l e rmX2_aimIslands s m args below meth c H locs 0 0 Q (F0 m 2 ls []))) (σ : St) (y1 : Int32) (H : Heap) (locs : List Loc) (ls : Array Slot), fX2_aimIslands_s2 k2 σ y1 = some σ2 → zz (dC, dI) 30 a (wdC cI cZ a σ) s.heap H locs → lv_has ls 2 [(0, .ref (a 11)), (1, .int y1)] → W p l e rmX2_aimIslands s m args below meth c H locs 0 0 Q (F0 m 2 ls []) := by
    intro k2 hk2 σ y1 H locs ls h hz hl
    unfold fX2_aimIslands_s2 at h
    refine lv_iload_n hx hb dX2_aimIslands_2 rfl (lv_at hl 1 rfl) ?_
    refine lv_aload_n hx hb dX2_aimIslands_3 rfl (lv_at hl 0 rfl) ?_
    refine va_get (v := .ref (a 12)) hx hb hts inX2_aimIslands_X2 hown hKK.1 hz.1 11 rfl rfl 2 (by decide) (hts _ (List.mem_of_getElem? (i := 1) rfl)) (fun _ h9 => h9) rfl dX2_aimIslands_4 ?_
    obtain ⟨r1, e3, h⟩ := bd1_e h
    refine zcallVi (As := []) (rest := [.int y1]) CF hKK (KX4_size_i (dC := dC) (dI := dI) (cI := cI) (cZ := cZ) (a := a) hok e3) (cwV 0 hts gX2_aimIslands_X4_size rfl rfl rfl cdX4_size ⟨Nat.le_of_ble_eq_true rfl, Nat.le_of_ble_eq_true rfl⟩) 12 4 rfl rfl hz rfl hl.1 rfl (Nat.le_of_ble_eq_true rfl) dX2_aimIslands_7 ⟨Nat.le_refl _, Nat.le_refl _⟩ (fun H locs hz => ?_)
    refine lv_icmp_ge (tgt := 54) hx hb dX2_aimIslands_10 (by decide) (fun c4 => ?_) (fun c4 => ?_)
    · replace h := ite_t c4 h
      exact rt σ 54 _ _ _ dX2_aimIslands_54 h hz
    · replace h := ite_f c4 h
      refine lv_iload_n hx hb dX2_aimIslands_13 rfl (lv_at hl 1 rfl) ?_
      refine lv_aload_n hx hb dX2_aimIslands_14 rfl (lv_at hl 0 rfl) ?_
      refine va_get (v := .ref (a 29)) hx hb hts inX2_aimIslands_X2 hown hKK.1 hz.1 11 rfl rfl 9 (by decide) (hts _ (List.mem_of_getElem? (i := 2) rfl)) (fun _ h9 => h9) rfl dX2_aimIslands_15 ?_
      refine va_alen (v := (12 : Int32)) hx hb hKK.1 hz.1 29 0 rfl rfl rfl dX2_aimIslands_18 ?_
      refine lv_icmp_ge (tgt := 54) hx hb dX2_aimIslands_19 (by decide) (fun c5 => ?_) (fun c5 => ?_)
      · replace h := ite_t c5 h
        exact rt σ 54 _ _ _ dX2_aimIslands_54 h hz
      · replace h := ite_f c5 h
        refine lv_aload_n hx hb dX2_aimIslands_22 rfl (lv_at hl 0 rfl) ?_
        refine va_get (v := .ref (a 29)) hx hb hts inX2_aimIslands_X2 hown hKK.1 hz.1 11 rfl rfl 9 (by decide) (hts _ (List.mem_of_getElem? (i := 2) rfl)) (fun _ h9 => h9) rfl dX2_aimIslands_23 ?_
        refine lv_iload_n hx hb dX2_aimIslands_26 rfl (lv_at hl 1 rfl) ?_
        refine lv_aload_n hx hb dX2_aimIslands_27 rfl (lv_at hl 0 rfl) ?_
        refine lv_aload_n hx hb dX2_aimIslands_28 rfl (lv_at hl 0 rfl) ?_
        refine va_get (v := .ref (a 12)) hx hb hts inX2_aimIslands_X2 hown hKK.1 hz.1 11 rfl rfl 2 (by decide) (hts _ (List.mem_of_getElem? (i := 1) rfl)) (fun _ h9 => h9) rfl dX2_aimIslands_29 ?_
        refine lv_iload_n hx hb dX2_aimIslands_32 rfl (lv_at hl 1 rfl) ?_
        obtain ⟨r6, e8, h⟩ := bd1_e h
        refine zcallVi (As := [.int y1]) (rest := [.ref (a 11), .int y1, .ref (a 29)]) CF hKK (KX4_addressOf_i (dC := dC) (dI := dI) (cI := cI) (cZ := cZ) (a := a) hok e8) (cwV 1 hts gX2_aimIslands_X4_addressOf rfl rfl rfl cdX4_addressOf ⟨Nat.le_of_ble_eq_true rfl, Nat.le_of_ble_eq_true rfl⟩) 12 4 rfl rfl hz rfl hl.1 rfl (Nat.le_of_ble_eq_true rfl) dX2_aimIslands_33 ⟨Nat.le_refl _, Nat.le_refl _⟩ (fun H locs hz => ?_)
        refine lv_aload_n hx hb dX2_aimIslands_36 rfl (lv_at hl 0 rfl) ?_
        refine va_get (v := .ref (a 12)) hx hb hts inX2_aimIslands_X2 hown hKK.1 hz.1 11 rfl rfl 2 (by decide) (hts _ (List.mem_of_getElem? (i := 1) rfl)) (fun _ h9 => h9) rfl dX2_aimIslands_37 ?_
        refine lv_iload_n hx hb dX2_aimIslands_40 rfl (lv_at hl 1 rfl) ?_
        obtain ⟨r9, e11, h⟩ := bd1_e h
        refine zcallVi (As := [.int y1]) (rest := [.int r6, .ref (a 11), .int y1, .ref (a 29)]) CF hKK (KX4_nameOf_i (dC := dC) (dI := dI) (cI := cI) (cZ := cZ) (a := a) hok e11) (cwV 1 hts gX2_aimIslands_X4_nameOf rfl rfl rfl cdX4_nameOf ⟨Nat.le_of_ble_eq_true rfl, Nat.le_of_ble_eq_true rfl⟩) 12 4 rfl rfl hz rfl hl.1 rfl (Nat.le_of_ble_eq_true rfl) dX2_aimIslands_41 ⟨Nat.le_refl _, Nat.le_refl _⟩ (fun H locs hz => ?_)
        obtain ⟨r12, e14, h⟩ := bd1_e h
        refine zcallVi (As := [.int r6, .int r9]) (rest := [.int y1, .ref (a 29)]) CF hKK (KX2_longAim (dC := dC) (dI := dI) (cI := cI) (cZ := cZ) (a := a) hok e14) (cwV 2 hts gX2_aimIslands_X2_longAim rfl rfl rfl cdX2_longAim ⟨Nat.le_of_ble_eq_true rfl, Nat.le_of_ble_eq_true rfl⟩) 11 2 rfl rfl hz rfl hl.1 rfl (Nat.le_of_ble_eq_true rfl) dX2_aimIslands_44 ⟨Nat.le_refl _, Nat.le_refl _⟩ (fun H locs hz => ?_)
        obtain ⟨c15, h⟩ := ck_e h
        refine ziast (f := σ 29) (w' := wdC cI cZ a (sa σ 29 (Int32.toNatClampNeg y1) r12)) hx hb hKK hok wkC hz 29 rfl c15 setCa_29 dX2_aimIslands_47 (fun H locs hz => ?_)
        refine lv_iinc (v := (y1 + (1 : Int32))) (lv' := [(1, .int (y1 + (1 : Int32))), (0, .ref (a 11))]) hx hb dX2_aimIslands_48 hl (k := 1) rfl rfl (by decide) rfl (fun ls hl => ?_)
        refine lv_goto (tgt := 2) hx hb dX2_aimIslands_51 (by decide) ?_
        exact hk2 (sa σ 29 (Int32.toNatClampNeg y1) r12) (y1 + (1 : Int32)) _ _ _ h hz (lv_sub hl [1, 0] rfl)
  have l2 : ∀  (n : Nat), ∀ (σ : St) (y1 : Int32) (H : Heap) (locs : List Loc) (ls : Array Slot), fX2_aimIslands_l2  n σ y1 = some σ2 → zz (dC, dI) 30 a (wdC cI cZ a σ) s.heap H locs → lv_has ls 2 [(0, .ref (a 11)), (1, .int y1)] → W p l e rmX2_aimIslands s m args below meth c H locs 0 0 Q (F0 m 2 ls []) := by
    intro  n
    induction n with
    | zero => intro σ y1 H locs ls h; exact nomatch h
    | succ n ih => exact s2  (fX2_aimIslands_l2  n) ih
  unfold fX2_aimIslands at h
  refine lv_iconst (v := (0 : Int32)) hx hb dX2_aimIslands_0 (by decide) ?_
  refine lv_istore_n (lv' := [(1, .int (0 : Int32)), (0, .ref (a 11))]) hx hb dX2_aimIslands_1 rfl hl (by decide) rfl (fun ls hl => ?_)
  exact l2  FU σ (0 : Int32) _ _ _ h hz (lv_sub hl [1, 0] rfl)
def fX2_aimOf (σ : St) (x1 : Int32) : Option (Int32) :=
  (if x1 < 0 then (some (-1 : Int32)) else ((if (24 : Int32) ≤ x1 then (some (-1 : Int32)) else ((ck (¬ (x1 < 0 ∨ 24 ≤ Int32.toNatClampNeg x1)) <| some ((σ 28) (Int32.toNatClampNeg x1)))))))
abbrev rmX2_aimOf : Room := { frames := 0, cells := 0, slots := 0, locals := 0 }
set_option maxHeartbeats 4000000 in
set_option maxRecDepth 100000 in
theorem KX2_aimOf {l : Launch} {dC : Nat → ClassId} {dI : Nat → Nat → Nat} {cI cZ : ClassId} {a : Nat → Nat} {σ : St} {x1 : Int32} {r : Int32} (hok : okA 30 a) (h : fX2_aimOf σ x1 = some r) (sz : Nat) : Met l yX2_aimOf wsX2_aimOf rmX2_aimOf (Pz (dC, dI) cI cZ (wdC cI cZ a σ) sz [.ref (a 11), .int x1]) (Qzi (dC, dI) 30 a (wdC cI cZ a σ) sz r) 0 0 (aN 30 a sz) := by
  refine Met.ofW (cc := cX2_aimOf) (maxL := 2) (ret := (some .int)) (by decide) rfl ?_
  intro p e s m args below meth c s₁ B hml hv
  obtain ⟨hav, hsz, hP, hKK⟩ := hv
  have hx := B.exec
  have hb := B.bytes
  have hr := B.returns
  have hts := atoms_spec (ws := wsX2_aimOf) B.pre
  have hown : s.vm.findClass RX2 = some m.cls := findClass_of_methodNamed B.named
  have hlocks := B.notSynchronized
  have CF : CallFix p m c cX2_aimOf 2 s args wsX2_aimOf RX2 := ⟨hx, hb, hml, hown, hts⟩
  have hz : zz (dC, dI) 30 a (wdC cI cZ a σ) s.heap s.heap [] := ⟨hP, va_S.rf⟩
  have hl := lv_entry [.ref (a 11), .int x1] (n := 2) (Nat.le_of_ble_eq_true rfl)
  have hen : entryFrame m args 2 = entryFrame m ([.ref (a 11), .int x1] : List Value).toArray 2 := by rw [hav]
  rw [hen, lg_entry_eq]
  generalize (lg_sl [.ref (a 11), .int x1] ++ List.replicate (2 - (lg_sl [.ref (a 11), .int x1]).length) Slot.unset).toArray = ls at hl ⊢
  have hl : lv_has ls 2 [(0, .ref (a 11)), (1, .int x1)] := hl
  have eR : (headSpec wsX2_aimOf rmX2_aimOf).room = rmX2_aimOf := rfl
  rw [eR]
  have rt : ∀ (v : Int32) (t : St) (pc : Nat) (H : Heap) (locs : List Loc) (ls : Array Slot), decode cX2_aimOf pc = .ok (.ireturn, 1) → some v = some r → zz (dC, dI) 30 a (wdC cI cZ a σ) s.heap H locs → W p l e rmX2_aimOf s m args below meth c H locs 0 0 (MQ below (Qzi (dC, dI) 30 a (wdC cI cZ a σ) sz r) args s 0 0 (aN 30 a sz)) (F0 m pc ls [.int v]) := by
    intro v t pc H locs ls hd h hz
    cases h
    exact ziret hsz hx hb hr hlocks hz hd
  generalize (MQ below (Qzi (dC, dI) 30 a (wdC cI cZ a σ) sz r) args s 0 0 (aN 30 a sz)) = Q at rt ⊢
  unfold fX2_aimOf at h
  refine lv_iload_n hx hb dX2_aimOf_0 rfl (lv_at hl 1 rfl) ?_
  refine lv_if_lt (tgt := 22) hx hb dX2_aimOf_1 (by decide) (fun c1 => ?_) (fun c1 => ?_)
  · replace h := ite_t c1 h
    refine lv_iconst (v := (-1 : Int32)) hx hb dX2_aimOf_22 (by decide) ?_
    exact rt (-1 : Int32) σ 23 _ _ _ dX2_aimOf_23 h hz
  · replace h := ite_f c1 h
    refine lv_iload_n hx hb dX2_aimOf_4 rfl (lv_at hl 1 rfl) ?_
    refine lv_aload_n hx hb dX2_aimOf_5 rfl (lv_at hl 0 rfl) ?_
    refine va_get (v := .ref (a 28)) hx hb hts inX2_aimOf_X2 hown hKK.1 hz.1 11 rfl rfl 8 (by decide) (hts _ (List.mem_of_getElem? (i := 1) rfl)) (fun _ h9 => h9) rfl dX2_aimOf_6 ?_
    refine va_alen (v := (24 : Int32)) hx hb hKK.1 hz.1 28 0 rfl rfl rfl dX2_aimOf_9 ?_
    refine lv_icmp_ge (tgt := 22) hx hb dX2_aimOf_10 (by decide) (fun c2 => ?_) (fun c2 => ?_)
    · replace h := ite_t c2 h
      refine lv_iconst (v := (-1 : Int32)) hx hb dX2_aimOf_22 (by decide) ?_
      exact rt (-1 : Int32) σ 23 _ _ _ dX2_aimOf_23 h hz
    · replace h := ite_f c2 h
      refine lv_aload_n hx hb dX2_aimOf_13 rfl (lv_at hl 0 rfl) ?_
      refine va_get (v := .ref (a 28)) hx hb hts inX2_aimOf_X2 hown hKK.1 hz.1 11 rfl rfl 8 (by decide) (hts _ (List.mem_of_getElem? (i := 1) rfl)) (fun _ h9 => h9) rfl dX2_aimOf_14 ?_
      refine lv_iload_n hx hb dX2_aimOf_17 rfl (lv_at hl 1 rfl) ?_
      obtain ⟨c3, h⟩ := ck_e h
      refine va_iald (f := (σ 28)) hx hb hKK.1 hz.1 28 0 rfl rfl c3 dX2_aimOf_18 ?_
      refine lv_goto (tgt := 23) hx hb dX2_aimOf_19 (by decide) ?_
      exact rt ((σ 28) (Int32.toNatClampNeg x1)) σ 23 _ _ _ dX2_aimOf_23 h hz
def fX2_firstAstray_s2 (σ : St) (k2 : Int32 → Int32 → Int32 → Option (Int32)) (y1 : Int32) (y2 : Int32) (y3 : Int32) : Option (Int32) :=
  (bd1 (fX0_size_p σ ) fun r1 => (if r1 ≤ y3 then (some (-1 : Int32)) else ((bd1 (fX0_kindOf_p σ y3) fun r5 => (if r5 = y1 then ((bd1 (fX2_isLong σ y3) fun r9 => (if r9 = y2 then ((bd1 (fX2_aimOf σ y3) fun r13 => (if r13 = (-1 : Int32) then (some y3) else (k2 y1 y2 (y3 + (1 : Int32)))))) else (k2 y1 y2 (y3 + (1 : Int32)))))) else (k2 y1 y2 (y3 + (1 : Int32))))))))
def fX2_firstAstray_l2 (σ : St)  : Nat → Int32 → Int32 → Int32 → Option (Int32) :=
  itr (fX2_firstAstray_s2 σ ) (fun _ _ _ => none)
def fX2_firstAstray (σ : St) (x1 : Int32) (x2 : Int32) : Option (Int32) :=
  fX2_firstAstray_l2 σ  FU x1 x2 (0 : Int32)
abbrev rmX2_firstAstray : Room := { frames := 2, cells := 0, slots := 0, locals := 42 }
set_option maxHeartbeats 4000000 in
set_option maxRecDepth 100000 in
theorem KX2_firstAstray {l : Launch} {dC : Nat → ClassId} {dI : Nat → Nat → Nat} {cI cZ : ClassId} {a : Nat → Nat} {σ : St} {x1 : Int32} {x2 : Int32} {r : Int32} (hok : okA 30 a) (h : fX2_firstAstray σ x1 x2 = some r) (sz : Nat) : Met l yX2_firstAstray wsX2_firstAstray rmX2_firstAstray (Pz (dC, dI) cI cZ (wdC cI cZ a σ) sz [.ref (a 11), .int x1, .int x2]) (Qzi (dC, dI) 30 a (wdC cI cZ a σ) sz r) 0 0 (aN 30 a sz) := by
  refine Met.ofW (cc := cX2_firstAstray) (maxL := 4) (ret := (some .int)) (by decide) rfl ?_
  intro p e s m args below meth c s₁ B hml hv
  obtain ⟨hav, hsz, hP, hKK⟩ := hv
  have hx := B.exec
  have hb := B.bytes
  have hr := B.returns
  have hts := atoms_spec (ws := wsX2_firstAstray) B.pre
  have hown : s.vm.findClass RX2 = some m.cls := findClass_of_methodNamed B.named
  have hlocks := B.notSynchronized
  have CF : CallFix p m c cX2_firstAstray 4 s args wsX2_firstAstray RX2 := ⟨hx, hb, hml, hown, hts⟩
  have hz : zz (dC, dI) 30 a (wdC cI cZ a σ) s.heap s.heap [] := ⟨hP, va_S.rf⟩
  have hl := lv_entry [.ref (a 11), .int x1, .int x2] (n := 4) (Nat.le_of_ble_eq_true rfl)
  have hen : entryFrame m args 4 = entryFrame m ([.ref (a 11), .int x1, .int x2] : List Value).toArray 4 := by rw [hav]
  rw [hen, lg_entry_eq]
  generalize (lg_sl [.ref (a 11), .int x1, .int x2] ++ List.replicate (4 - (lg_sl [.ref (a 11), .int x1, .int x2]).length) Slot.unset).toArray = ls at hl ⊢
  have hl : lv_has ls 4 [(0, .ref (a 11)), (1, .int x1), (2, .int x2)] := hl
  have eR : (headSpec wsX2_firstAstray rmX2_firstAstray).room = rmX2_firstAstray := rfl
  rw [eR]
  have rt : ∀ (v : Int32) (t : St) (pc : Nat) (H : Heap) (locs : List Loc) (ls : Array Slot), decode cX2_firstAstray pc = .ok (.ireturn, 1) → some v = some r → zz (dC, dI) 30 a (wdC cI cZ a σ) s.heap H locs → W p l e rmX2_firstAstray s m args below meth c H locs 0 0 (MQ below (Qzi (dC, dI) 30 a (wdC cI cZ a σ) sz r) args s 0 0 (aN 30 a sz)) (F0 m pc ls [.int v]) := by
    intro v t pc H locs ls hd h hz
    cases h
    exact ziret hsz hx hb hr hlocks hz hd
  generalize (MQ below (Qzi (dC, dI) 30 a (wdC cI cZ a σ) sz r) args s 0 0 (aN 30 a sz)) = Q at rt ⊢
  have s2 : ∀ (k2 : Int32 → Int32 → Int32 → Option (Int32)) (hk2 : (∀ (y1 : Int32) (y2 : Int32) (y3 : Int32) (H : Heap) (locs : List Loc) (ls : Array Slot), k2 y1 y2 y3 = some r → zz (dC, dI) 30 a (wdC cI cZ a σ) s.heap H locs → lv_has ls 4 [(0, .ref (a 11)), (1, .int y1), (2, .int y2), (3, .int y3)] → W p l e rmX2_firstAstray s m args below meth c H locs 0 0 Q (F0 m 2 ls []))) (y1 : Int32) (y2 : Int32) (y3 : Int32) (H : Heap) (locs : List Loc) (ls : Array Slot), fX2_firstAstray_s2 σ k2 y1 y2 y3 = some r → zz (dC, dI) 30 a (wdC cI cZ a σ) s.heap H locs → lv_has ls 4 [(0, .ref (a 11)), (1, .int y1), (2, .int y2), (3, .int y3)] → W p l e rmX2_firstAstray s m args below meth c H locs 0 0 Q (F0 m 2 ls []) := by
    intro k2 hk2 y1 y2 y3 H locs ls h hz hl
    unfold fX2_firstAstray_s2 at h
    refine lv_iload_n hx hb dX2_firstAstray_2 rfl (lv_at hl 3 rfl) ?_
    refine lv_aload_n hx hb dX2_firstAstray_3 rfl (lv_at hl 0 rfl) ?_
    refine va_get (v := .ref (a 7)) hx hb hts inX2_firstAstray_X2 hown hKK.1 hz.1 11 rfl rfl 0 (by decide) (hts _ (List.mem_of_getElem? (i := 1) rfl)) (fun _ h9 => h9) rfl dX2_firstAstray_4 ?_
    obtain ⟨r1, e3, h⟩ := bd1_e h
    refine zcallVi (As := []) (rest := [.int y3]) CF hKK (KX0_size_p (dC := dC) (dI := dI) (cI := cI) (cZ := cZ) (a := a) hok e3) (cwV 0 hts gX2_firstAstray_X0_size rfl rfl rfl cdX0_size ⟨Nat.le_of_ble_eq_true rfl, Nat.le_of_ble_eq_true rfl⟩) 7 0 rfl rfl hz rfl hl.1 rfl (Nat.le_of_ble_eq_true rfl) dX2_firstAstray_7 ⟨Nat.le_refl _, Nat.le_refl _⟩ (fun H locs hz => ?_)
    refine lv_icmp_ge (tgt := 51) hx hb dX2_firstAstray_10 (by decide) (fun c4 => ?_) (fun c4 => ?_)
    · replace h := ite_t c4 h
      refine lv_iconst (v := (-1 : Int32)) hx hb dX2_firstAstray_51 (by decide) ?_
      exact rt (-1 : Int32) σ 52 _ _ _ dX2_firstAstray_52 h hz
    · replace h := ite_f c4 h
      refine lv_aload_n hx hb dX2_firstAstray_13 rfl (lv_at hl 0 rfl) ?_
      refine va_get (v := .ref (a 7)) hx hb hts inX2_firstAstray_X2 hown hKK.1 hz.1 11 rfl rfl 0 (by decide) (hts _ (List.mem_of_getElem? (i := 1) rfl)) (fun _ h9 => h9) rfl dX2_firstAstray_14 ?_
      refine lv_iload_n hx hb dX2_firstAstray_17 rfl (lv_at hl 3 rfl) ?_
      obtain ⟨r5, e7, h⟩ := bd1_e h
      refine zcallVi (As := [.int y3]) (rest := []) CF hKK (KX0_kindOf_p (dC := dC) (dI := dI) (cI := cI) (cZ := cZ) (a := a) hok e7) (cwV 1 hts gX2_firstAstray_X0_kindOf rfl rfl rfl cdX0_kindOf ⟨Nat.le_of_ble_eq_true rfl, Nat.le_of_ble_eq_true rfl⟩) 7 0 rfl rfl hz rfl hl.1 rfl (Nat.le_of_ble_eq_true rfl) dX2_firstAstray_18 ⟨Nat.le_refl _, Nat.le_refl _⟩ (fun H locs hz => ?_)
      refine lv_iload_n hx hb dX2_firstAstray_21 rfl (lv_at hl 1 rfl) ?_
      refine lv_icmp_ne (tgt := 45) hx hb dX2_firstAstray_22 (by decide) (fun c8 => ?_) (fun c8 => ?_)
      · replace h := ite_f c8 h
        refine lv_iinc (v := (y3 + (1 : Int32))) (lv' := [(3, .int (y3 + (1 : Int32))), (0, .ref (a 11)), (1, .int y1), (2, .int y2)]) hx hb dX2_firstAstray_45 hl (k := 3) rfl rfl (by decide) rfl (fun ls hl => ?_)
        refine lv_goto (tgt := 2) hx hb dX2_firstAstray_48 (by decide) ?_
        exact hk2 y1 y2 (y3 + (1 : Int32)) _ _ _ h hz (lv_sub hl [1, 2, 3, 0] rfl)
      · replace h := ite_t c8 h
        refine lv_aload_n hx hb dX2_firstAstray_25 rfl (lv_at hl 0 rfl) ?_
        refine lv_iload_n hx hb dX2_firstAstray_26 rfl (lv_at hl 3 rfl) ?_
        obtain ⟨r9, e11, h⟩ := bd1_e h
        refine zcallVi (As := [.int y3]) (rest := []) CF hKK (KX2_isLong (dC := dC) (dI := dI) (cI := cI) (cZ := cZ) (a := a) hok e11) (cwV 1 hts gX2_firstAstray_X2_isLong rfl rfl rfl cdX2_isLong ⟨Nat.le_of_ble_eq_true rfl, Nat.le_of_ble_eq_true rfl⟩) 11 2 rfl rfl hz rfl hl.1 rfl (Nat.le_of_ble_eq_true rfl) dX2_firstAstray_27 ⟨Nat.le_refl _, Nat.le_refl _⟩ (fun H locs hz => ?_)
        refine lv_iload_n hx hb dX2_firstAstray_30 rfl (lv_at hl 2 rfl) ?_
        refine lv_icmp_ne (tgt := 45) hx hb dX2_firstAstray_31 (by decide) (fun c12 => ?_) (fun c12 => ?_)
        · replace h := ite_f c12 h
          refine lv_iinc (v := (y3 + (1 : Int32))) (lv' := [(3, .int (y3 + (1 : Int32))), (0, .ref (a 11)), (1, .int y1), (2, .int y2)]) hx hb dX2_firstAstray_45 hl (k := 3) rfl rfl (by decide) rfl (fun ls hl => ?_)
          refine lv_goto (tgt := 2) hx hb dX2_firstAstray_48 (by decide) ?_
          exact hk2 y1 y2 (y3 + (1 : Int32)) _ _ _ h hz (lv_sub hl [1, 2, 3, 0] rfl)
        · replace h := ite_t c12 h
          refine lv_aload_n hx hb dX2_firstAstray_34 rfl (lv_at hl 0 rfl) ?_
          refine lv_iload_n hx hb dX2_firstAstray_35 rfl (lv_at hl 3 rfl) ?_
          obtain ⟨r13, e15, h⟩ := bd1_e h
          refine zcallVi (As := [.int y3]) (rest := []) CF hKK (KX2_aimOf (dC := dC) (dI := dI) (cI := cI) (cZ := cZ) (a := a) hok e15) (cwV 1 hts gX2_firstAstray_X2_aimOf rfl rfl rfl cdX2_aimOf ⟨Nat.le_of_ble_eq_true rfl, Nat.le_of_ble_eq_true rfl⟩) 11 2 rfl rfl hz rfl hl.1 rfl (Nat.le_of_ble_eq_true rfl) dX2_firstAstray_36 ⟨Nat.le_refl _, Nat.le_refl _⟩ (fun H locs hz => ?_)
          refine lv_iconst (v := (-1 : Int32)) hx hb dX2_firstAstray_39 (by decide) ?_
          refine lv_icmp_ne (tgt := 45) hx hb dX2_firstAstray_40 (by decide) (fun c16 => ?_) (fun c16 => ?_)
          · replace h := ite_f c16 h
            refine lv_iinc (v := (y3 + (1 : Int32))) (lv' := [(3, .int (y3 + (1 : Int32))), (0, .ref (a 11)), (1, .int y1), (2, .int y2)]) hx hb dX2_firstAstray_45 hl (k := 3) rfl rfl (by decide) rfl (fun ls hl => ?_)
            refine lv_goto (tgt := 2) hx hb dX2_firstAstray_48 (by decide) ?_
            exact hk2 y1 y2 (y3 + (1 : Int32)) _ _ _ h hz (lv_sub hl [1, 2, 3, 0] rfl)
          · replace h := ite_t c16 h
            refine lv_iload_n hx hb dX2_firstAstray_43 rfl (lv_at hl 3 rfl) ?_
            exact rt y3 σ 44 _ _ _ dX2_firstAstray_44 h hz
  have l2 : ∀  (n : Nat), ∀ (y1 : Int32) (y2 : Int32) (y3 : Int32) (H : Heap) (locs : List Loc) (ls : Array Slot), fX2_firstAstray_l2 σ  n y1 y2 y3 = some r → zz (dC, dI) 30 a (wdC cI cZ a σ) s.heap H locs → lv_has ls 4 [(0, .ref (a 11)), (1, .int y1), (2, .int y2), (3, .int y3)] → W p l e rmX2_firstAstray s m args below meth c H locs 0 0 Q (F0 m 2 ls []) := by
    intro  n
    induction n with
    | zero => intro y1 y2 y3 H locs ls h; exact nomatch h
    | succ n ih => exact s2  (fX2_firstAstray_l2 σ  n) ih
  unfold fX2_firstAstray at h
  refine lv_iconst (v := (0 : Int32)) hx hb dX2_firstAstray_0 (by decide) ?_
  refine lv_istore_n (lv' := [(3, .int (0 : Int32)), (0, .ref (a 11)), (1, .int x1), (2, .int x2)]) hx hb dX2_firstAstray_1 rfl hl (by decide) rfl (fun ls hl => ?_)
  exact l2  FU x1 x2 (0 : Int32) _ _ _ h hz (lv_sub hl [1, 2, 3, 0] rfl)
def fX2_lengthens (σ : St) (x1 : Int32) : Option (Int32 × St) :=
  (if x1 < 0 then (some ((0 : Int32), σ)) else ((if x1 < (24 : Int32) then ((ck (¬ (x1 < 0 ∨ 24 ≤ Int32.toNatClampNeg x1)) <| some ((1 : Int32), (si (sa σ 24 (Int32.toNatClampNeg x1) (1 : Int32)) 50 ((σ 50 0) + (1 : Int32)))))) else (some ((0 : Int32), σ)))))
abbrev rmX2_lengthens : Room := { frames := 0, cells := 0, slots := 0, locals := 0 }
set_option maxHeartbeats 4000000 in
set_option maxRecDepth 100000 in
theorem KX2_lengthens {l : Launch} {dC : Nat → ClassId} {dI : Nat → Nat → Nat} {cI cZ : ClassId} {a : Nat → Nat} {σ : St} {x1 : Int32} {r : Int32} {σ2 : St} (hok : okA 30 a) (h : fX2_lengthens σ x1 = some (r, σ2)) (sz : Nat) : Met l yX2_lengthens wsX2_lengthens rmX2_lengthens (Pz (dC, dI) cI cZ (wdC cI cZ a σ) sz [.ref (a 11), .int x1]) (Qzi (dC, dI) 30 a (wdC cI cZ a σ2) sz r) 0 0 (aN 30 a sz) := by
  refine Met.ofW (cc := cX2_lengthens) (maxL := 2) (ret := (some .boolean)) (by decide) rfl ?_
  intro p e s m args below meth c s₁ B hml hv
  obtain ⟨hav, hsz, hP, hKK⟩ := hv
  have hx := B.exec
  have hb := B.bytes
  have hr := B.returns
  have hts := atoms_spec (ws := wsX2_lengthens) B.pre
  have hown : s.vm.findClass RX2 = some m.cls := findClass_of_methodNamed B.named
  have hlocks := B.notSynchronized
  have CF : CallFix p m c cX2_lengthens 2 s args wsX2_lengthens RX2 := ⟨hx, hb, hml, hown, hts⟩
  have hz : zz (dC, dI) 30 a (wdC cI cZ a σ) s.heap s.heap [] := ⟨hP, va_S.rf⟩
  have hl := lv_entry [.ref (a 11), .int x1] (n := 2) (Nat.le_of_ble_eq_true rfl)
  have hen : entryFrame m args 2 = entryFrame m ([.ref (a 11), .int x1] : List Value).toArray 2 := by rw [hav]
  rw [hen, lg_entry_eq]
  generalize (lg_sl [.ref (a 11), .int x1] ++ List.replicate (2 - (lg_sl [.ref (a 11), .int x1]).length) Slot.unset).toArray = ls at hl ⊢
  have hl : lv_has ls 2 [(0, .ref (a 11)), (1, .int x1)] := hl
  have eR : (headSpec wsX2_lengthens rmX2_lengthens).room = rmX2_lengthens := rfl
  rw [eR]
  have rt : ∀ (v : Int32) (t : St) (pc : Nat) (H : Heap) (locs : List Loc) (ls : Array Slot), decode cX2_lengthens pc = .ok (.ireturn, 1) → some (v, t) = some (r, σ2) → zz (dC, dI) 30 a (wdC cI cZ a t) s.heap H locs → (v = 0 ∨ v = 1) → W p l e rmX2_lengthens s m args below meth c H locs 0 0 (MQ below (Qzi (dC, dI) 30 a (wdC cI cZ a σ2) sz r) args s 0 0 (aN 30 a sz)) (F0 m pc ls [.int v]) := by
    intro v t pc H locs ls hd h hz hv
    cases h
    exact zzret hsz hx hb hr hlocks hv hz hd
  generalize (MQ below (Qzi (dC, dI) 30 a (wdC cI cZ a σ2) sz r) args s 0 0 (aN 30 a sz)) = Q at rt ⊢
  unfold fX2_lengthens at h
  refine lv_iload_n hx hb dX2_lengthens_0 rfl (lv_at hl 1 rfl) ?_
  refine lv_if_lt (tgt := 13) hx hb dX2_lengthens_1 (by decide) (fun c1 => ?_) (fun c1 => ?_)
  · replace h := ite_t c1 h
    refine lv_iconst (v := (0 : Int32)) hx hb dX2_lengthens_13 (by decide) ?_
    exact rt (0 : Int32) σ 14 _ _ _ dX2_lengthens_14 h hz (Or.inl rfl)
  · replace h := ite_f c1 h
    refine lv_iload_n hx hb dX2_lengthens_4 rfl (lv_at hl 1 rfl) ?_
    refine lv_aload_n hx hb dX2_lengthens_5 rfl (lv_at hl 0 rfl) ?_
    refine va_get (v := .ref (a 24)) hx hb hts inX2_lengthens_X2 hown hKK.1 hz.1 11 rfl rfl 4 (by decide) (hts _ (List.mem_of_getElem? (i := 1) rfl)) (fun _ h9 => h9) rfl dX2_lengthens_6 ?_
    refine va_alen (v := (24 : Int32)) hx hb hKK.1 hz.1 24 1 rfl rfl rfl dX2_lengthens_9 ?_
    refine lv_icmp_lt (tgt := 15) hx hb dX2_lengthens_10 (by decide) (fun c2 => ?_) (fun c2 => ?_)
    · replace h := ite_t c2 h
      refine lv_aload_n hx hb dX2_lengthens_15 rfl (lv_at hl 0 rfl) ?_
      refine va_get (v := .ref (a 24)) hx hb hts inX2_lengthens_X2 hown hKK.1 hz.1 11 rfl rfl 4 (by decide) (hts _ (List.mem_of_getElem? (i := 1) rfl)) (fun _ h9 => h9) rfl dX2_lengthens_16 ?_
      refine lv_iload_n hx hb dX2_lengthens_19 rfl (lv_at hl 1 rfl) ?_
      refine lv_iconst (v := (1 : Int32)) hx hb dX2_lengthens_20 (by decide) ?_
      obtain ⟨c3, h⟩ := ck_e h
      refine zzast (f := σ 24) (w' := wdC cI cZ a (sa σ 24 (Int32.toNatClampNeg x1) (1 : Int32))) hx hb hKK hok wkC hz 24 rfl c3 (x' := (1 : Int32)) (by decide) setCa_24 dX2_lengthens_21 (fun H locs hz => ?_)
      refine lv_aload_n hx hb dX2_lengthens_22 rfl (lv_at hl 0 rfl) ?_
      refine lv_dup hx hb dX2_lengthens_23 rfl ?_
      refine va_get (v := .int (σ 50 0)) hx hb hts inX2_lengthens_X2 hown hKK.1 hz.1 11 rfl rfl 10 (by decide) (hts _ (List.mem_of_getElem? (i := 2) rfl)) (fun _ h9 => h9) rfl dX2_lengthens_24 ?_
      refine lv_iconst (v := (1 : Int32)) hx hb dX2_lengthens_27 (by decide) ?_
      refine lv_iadd hx hb dX2_lengthens_28 ?_
      refine zput (ty := .int) (w' := wdC cI cZ a (si (sa σ 24 (Int32.toNatClampNeg x1) (1 : Int32)) 50 ((σ 50 0) + (1 : Int32)))) hx hb hts inX2_lengthens_X2 tyX2 tyX2_ok nmX2 hown hKK hok wkC hz 11 rfl rfl 10 (by decide) (hts _ (List.mem_of_getElem? (i := 2) rfl)) (fun _ h9 => h9) rfl rfl rfl rfl (Nat.le_of_ble_eq_true rfl) setCi_50 dX2_lengthens_29 (fun H locs hz => ?_)
      refine lv_iconst (v := (1 : Int32)) hx hb dX2_lengthens_32 (by decide) ?_
      exact rt (1 : Int32) (si (sa σ 24 (Int32.toNatClampNeg x1) (1 : Int32)) 50 ((σ 50 0) + (1 : Int32))) 33 _ _ _ dX2_lengthens_33 h hz (Or.inr rfl)
    · replace h := ite_f c2 h
      refine lv_iconst (v := (0 : Int32)) hx hb dX2_lengthens_13 (by decide) ?_
      exact rt (0 : Int32) σ 14 _ _ _ dX2_lengthens_14 h hz (Or.inl rfl)
