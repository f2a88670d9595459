def fX6_putConstant_b72  (σ : St) (y1 : Int32) : Option (Int32 × St) :=
  (bd2 (fX6_fails σ (1 : Int32) y1) fun r3 s4 => (ck (r3 = 0 ∨ r3 = 1) <| some (r3, s4)))
def fX6_putConstant_s6 (k6 : St → Int32 → Int32 → Int32 → Option (Int32 × St)) (σ : St) (y1 : Int32) (y2 : Int32) (y3 : Int32) : Option (Int32 × St) :=
  (if (σ 41 0) ≤ y3 then ((if y2 = (-1 : Int32) then (fX6_putConstant_b72  σ y1) else ((if (σ 49 0) = (16 : Int32) then (fX6_putConstant_b72  σ y1) else ((ck (¬ (y1 < 0 ∨ 24 ≤ Int32.toNatClampNeg y1)) <| (ck (¬ ((σ 49 0) < 0 ∨ 16 ≤ Int32.toNatClampNeg (σ 49 0))) <| (ck (¬ ((σ 49 0) < 0 ∨ 16 ≤ Int32.toNatClampNeg (σ 49 0))) <| some ((1 : Int32), (si (sa (sa σ 10 (Int32.toNatClampNeg (σ 49 0)) ((σ 3) (Int32.toNatClampNeg y1))) 11 (Int32.toNatClampNeg (σ 49 0)) y2) 49 ((σ 49 0) + (1 : Int32)))))))))))) else ((ck (¬ (y3 < 0 ∨ 24 ≤ Int32.toNatClampNeg y3)) <| (if ((σ 2) (Int32.toNatClampNeg y3)) = (5 : Int32) then ((ck (¬ (y3 < 0 ∨ 24 ≤ Int32.toNatClampNeg y3)) <| (ck (¬ (y1 < 0 ∨ 24 ≤ Int32.toNatClampNeg y1)) <| (if ((σ 4) (Int32.toNatClampNeg (2 : Int32))) < (((σ 16) (Int32.toNatClampNeg y3)) - ((σ 12) (Int32.toNatClampNeg y1))) then (k6 σ y1 y2 (y3 + (1 : Int32))) else (k6 σ y1 y3 (y3 + (1 : Int32))))))) else (k6 σ y1 y2 (y3 + (1 : Int32)))))))
def fX6_putConstant_l6  : Nat → St → Int32 → Int32 → Int32 → Option (Int32 × St) :=
  itr (fX6_putConstant_s6 ) (fun _ _ _ _ => none)
def fX6_putConstant (σ : St) (x1 : Int32) : Option (Int32 × St) :=
  fX6_putConstant_l6  FU σ x1 (-1 : Int32) (x1 + (1 : Int32))
abbrev rmX6_putConstant : Room := { frames := 1, cells := 0, slots := 0, locals := 22 }
set_option maxHeartbeats 4000000 in
set_option maxRecDepth 100000 in
theorem KX6_putConstant {l : Launch} {dC : Nat → ClassId} {dI : Nat → Nat → Nat} {cI cZ : ClassId} {a : Nat → Nat} {hh : Int64} {σ : St} {x1 : Int32} {r : Int32} {σ2 : St} (hok : okA 18 a) (h : fX6_putConstant σ x1 = some (r, σ2)) (sz : Nat) : Met l yX6_putConstant wsX6_putConstant rmX6_putConstant (Pz (dC, dI) cI cZ (wdM cI cZ a hh σ) sz [.ref (a 0), .int x1]) (Qzi (dC, dI) 18 a (wdM cI cZ a hh σ2) sz r) 0 0 (aN 18 a sz) := by
  refine Met.ofW (cc := cX6_putConstant) (maxL := 4) (ret := (some .boolean)) (by decide) rfl ?_
  intro p e s m args below meth c s₁ B hml hv
  obtain ⟨hav, hsz, hP, hKK⟩ := hv
  have hx := B.exec
  have hb := B.bytes
  have hr := B.returns
  have hts := atoms_spec (ws := wsX6_putConstant) B.pre
  have hown : s.vm.findClass RX6 = some m.cls := findClass_of_methodNamed B.named
  have hlocks := B.notSynchronized
  have CF : CallFix p m c cX6_putConstant 4 s args wsX6_putConstant RX6 := ⟨hx, hb, hml, hown, hts⟩
  have hz : zz (dC, dI) 18 a (wdM cI cZ a hh σ) s.heap s.heap [] := ⟨hP, va_S.rf⟩
  have hl := lv_entry [.ref (a 0), .int x1] (n := 4) (Nat.le_of_ble_eq_true rfl)
  have hen : entryFrame m args 4 = entryFrame m ([.ref (a 0), .int x1] : List Value).toArray 4 := by rw [hav]
  rw [hen, lg_entry_eq]
  generalize (lg_sl [.ref (a 0), .int x1] ++ List.replicate (4 - (lg_sl [.ref (a 0), .int x1]).length) Slot.unset).toArray = ls at hl ⊢
  have hl : lv_has ls 4 [(0, .ref (a 0)), (1, .int x1)] := hl
  have eR : (headSpec wsX6_putConstant rmX6_putConstant).room = rmX6_putConstant := rfl
  rw [eR]
  have rt : ∀ (v : Int32) (t : St) (pc : Nat) (H : Heap) (locs : List Loc) (ls : Array Slot), decode cX6_putConstant pc = .ok (.ireturn, 1) → some (v, t) = some (r, σ2) → zz (dC, dI) 18 a (wdM cI cZ a hh t) s.heap H locs → (v = 0 ∨ v = 1) → W p l e rmX6_putConstant s m args below meth c H locs 0 0 (MQ below (Qzi (dC, dI) 18 a (wdM cI cZ a hh σ2) sz r) args s 0 0 (aN 18 a sz)) (F0 m pc ls [.int v]) := by
    intro v t pc H locs ls hd h hz hv
    cases h
    exact zzret hsz hx hb hr hlocks hv hz hd
  generalize (MQ below (Qzi (dC, dI) 18 a (wdM cI cZ a hh σ2) sz r) args s 0 0 (aN 18 a sz)) = Q at rt ⊢
  have b72 : ∀  (σ : St) (y1 : Int32) (H : Heap) (locs : List Loc) (ls : Array Slot), fX6_putConstant_b72  σ y1 = some (r, σ2) → zz (dC, dI) 18 a (wdM cI cZ a hh σ) s.heap H locs → lv_has ls 4 [(0, .ref (a 0)), (1, .int y1)] → W p l e rmX6_putConstant s m args below meth c H locs 0 0 Q (F0 m 72 ls []) := by
    intro  σ y1 H locs ls h hz hl
    unfold fX6_putConstant_b72 at h
    refine lv_aload_n hx hb dX6_putConstant_72 rfl (lv_at hl 0 rfl) ?_
    refine lv_iconst (v := (1 : Int32)) hx hb dX6_putConstant_73 (by decide) ?_
    refine lv_iload_n hx hb dX6_putConstant_74 rfl (lv_at hl 1 rfl) ?_
    obtain ⟨r3, s4, e5, h⟩ := bd2_e h
    refine zcallVi (As := [.int (1 : Int32), .int y1]) (rest := []) CF hKK (KX6_fails (dC := dC) (dI := dI) (cI := cI) (cZ := cZ) (a := a) hok e5) (cwV 2 hts gX6_putConstant_X6_fails rfl rfl rfl cdX6_fails ⟨Nat.le_of_ble_eq_true rfl, Nat.le_of_ble_eq_true rfl⟩) 0 6 rfl rfl hz rfl hl.1 rfl (Nat.le_of_ble_eq_true rfl) dX6_putConstant_75 ⟨Nat.le_refl _, Nat.le_refl _⟩ (fun H locs hz => ?_)
    obtain ⟨c6, h⟩ := ck_e h
    exact rt r3 s4 78 _ _ _ dX6_putConstant_78 h hz c6
  have s6 : ∀ (k6 : St → Int32 → Int32 → Int32 → Option (Int32 × St)) (hk6 : (∀ (σ : St) (y1 : Int32) (y2 : Int32) (y3 : Int32) (H : Heap) (locs : List Loc) (ls : Array Slot), k6 σ y1 y2 y3 = some (r, σ2) → zz (dC, dI) 18 a (wdM cI cZ a hh σ) s.heap H locs → lv_has ls 4 [(0, .ref (a 0)), (1, .int y1), (2, .int y2), (3, .int y3)] → W p l e rmX6_putConstant s m args below meth c H locs 0 0 Q (F0 m 6 ls []))) (σ : St) (y1 : Int32) (y2 : Int32) (y3 : Int32) (H : Heap) (locs : List Loc) (ls : Array Slot), fX6_putConstant_s6 k6 σ y1 y2 y3 = some (r, σ2) → zz (dC, dI) 18 a (wdM cI cZ a hh σ) s.heap H locs → lv_has ls 4 [(0, .ref (a 0)), (1, .int y1), (2, .int y2), (3, .int y3)] → W p l e rmX6_putConstant s m args below meth c H locs 0 0 Q (F0 m 6 ls []) := by
    intro k6 hk6 σ y1 y2 y3 H locs ls h hz hl
    unfold fX6_putConstant_s6 at h
    refine lv_iload_n hx hb dX6_putConstant_6 rfl (lv_at hl 3 rfl) ?_
    refine lv_aload_n hx hb dX6_putConstant_7 rfl (lv_at hl 0 rfl) ?_
    refine va_get (v := .int (σ 41 0)) hx hb hts inX6_putConstant_X6 hown hKK.1 hz.1 0 rfl rfl 2 (by decide) (hts _ (List.mem_of_getElem? (i := 1) rfl)) (fun _ h9 => h9) rfl dX6_putConstant_8 ?_
    refine lv_icmp_ge (tgt := 58) hx hb dX6_putConstant_11 (by decide) (fun c1 => ?_) (fun c1 => ?_)
    · replace h := ite_t c1 h
      refine lv_iload_n hx hb dX6_putConstant_58 rfl (lv_at hl 2 rfl) ?_
      refine lv_iconst (v := (-1 : Int32)) hx hb dX6_putConstant_59 (by decide) ?_
      refine lv_icmp_eq (tgt := 72) hx hb dX6_putConstant_60 (by decide) (fun c2 => ?_) (fun c2 => ?_)
      · replace h := ite_t c2 h
        exact b72  σ y1 _ _ _ h hz (lv_sub hl [0, 1] rfl)
      · replace h := ite_f c2 h
        refine lv_aload_n hx hb dX6_putConstant_63 rfl (lv_at hl 0 rfl) ?_
        refine va_get (v := .int (σ 49 0)) hx hb hts inX6_putConstant_X6 hown hKK.1 hz.1 0 rfl rfl 18 (by decide) (hts _ (List.mem_of_getElem? (i := 6) rfl)) (fun _ h9 => h9) rfl dX6_putConstant_64 ?_
        refine lv_bipush (v := (16 : Int32)) hx hb dX6_putConstant_67 (by decide) ?_
        refine lv_icmp_ne (tgt := 79) hx hb dX6_putConstant_69 (by decide) (fun c7 => ?_) (fun c7 => ?_)
        · replace h := ite_f c7 h
          refine lv_aload_n hx hb dX6_putConstant_79 rfl (lv_at hl 0 rfl) ?_
          refine va_get (v := .ref (a 10)) hx hb hts inX6_putConstant_X6 hown hKK.1 hz.1 0 rfl rfl 19 (by decide) (hts _ (List.mem_of_getElem? (i := 7) rfl)) (fun _ h9 => h9) rfl dX6_putConstant_80 ?_
          refine lv_aload_n hx hb dX6_putConstant_83 rfl (lv_at hl 0 rfl) ?_
          refine va_get (v := .int (σ 49 0)) hx hb hts inX6_putConstant_X6 hown hKK.1 hz.1 0 rfl rfl 18 (by decide) (hts _ (List.mem_of_getElem? (i := 6) rfl)) (fun _ h9 => h9) rfl dX6_putConstant_84 ?_
          refine lv_aload_n hx hb dX6_putConstant_87 rfl (lv_at hl 0 rfl) ?_
          refine va_get (v := .ref (a 3)) hx hb hts inX6_putConstant_X6 hown hKK.1 hz.1 0 rfl rfl 4 (by decide) (hts _ (List.mem_of_getElem? (i := 8) rfl)) (fun _ h9 => h9) rfl dX6_putConstant_88 ?_
          refine lv_iload_n hx hb dX6_putConstant_91 rfl (lv_at hl 1 rfl) ?_
          obtain ⟨c8, h⟩ := ck_e h
          refine va_iald (f := (σ 3)) hx hb hKK.1 hz.1 3 0 rfl rfl c8 dX6_putConstant_92 ?_
          obtain ⟨c9, h⟩ := ck_e h
          refine ziast (f := σ 10) (w' := wdM cI cZ a hh (sa σ 10 (Int32.toNatClampNeg (σ 49 0)) ((σ 3) (Int32.toNatClampNeg y1)))) hx hb hKK hok wkM hz 10 rfl c9 setMa_10 dX6_putConstant_93 (fun H locs hz => ?_)
          refine lv_aload_n hx hb dX6_putConstant_94 rfl (lv_at hl 0 rfl) ?_
          refine va_get (v := .ref (a 11)) hx hb hts inX6_putConstant_X6 hown hKK.1 hz.1 0 rfl rfl 20 (by decide) (hts _ (List.mem_of_getElem? (i := 9) rfl)) (fun _ h9 => h9) rfl dX6_putConstant_95 ?_
          refine lv_aload_n hx hb dX6_putConstant_98 rfl (lv_at hl 0 rfl) ?_
          refine va_get (v := .int (σ 49 0)) hx hb hts inX6_putConstant_X6 hown hKK.1 hz.1 0 rfl rfl 18 (by decide) (hts _ (List.mem_of_getElem? (i := 6) rfl)) (fun _ h9 => h9) rfl dX6_putConstant_99 ?_
          refine lv_iload_n hx hb dX6_putConstant_102 rfl (lv_at hl 2 rfl) ?_
          obtain ⟨c10, h⟩ := ck_e h
          refine ziast (f := (sa σ 10 (Int32.toNatClampNeg (σ 49 0)) ((σ 3) (Int32.toNatClampNeg y1))) 11) (w' := wdM cI cZ a hh (sa (sa σ 10 (Int32.toNatClampNeg (σ 49 0)) ((σ 3) (Int32.toNatClampNeg y1))) 11 (Int32.toNatClampNeg (σ 49 0)) y2)) hx hb hKK hok wkM hz 11 rfl c10 setMa_11 dX6_putConstant_103 (fun H locs hz => ?_)
          refine lv_aload_n hx hb dX6_putConstant_104 rfl (lv_at hl 0 rfl) ?_
          refine lv_dup hx hb dX6_putConstant_105 rfl ?_
          refine va_get (v := .int (σ 49 0)) hx hb hts inX6_putConstant_X6 hown hKK.1 hz.1 0 rfl rfl 18 (by decide) (hts _ (List.mem_of_getElem? (i := 6) rfl)) (fun _ h9 => h9) rfl dX6_putConstant_106 ?_
          refine lv_iconst (v := (1 : Int32)) hx hb dX6_putConstant_109 (by decide) ?_
          refine lv_iadd hx hb dX6_putConstant_110 ?_
          refine zput (ty := .int) (w' := wdM cI cZ a hh (si (sa (sa σ 10 (Int32.toNatClampNeg (σ 49 0)) ((σ 3) (Int32.toNatClampNeg y1))) 11 (Int32.toNatClampNeg (σ 49 0)) y2) 49 ((σ 49 0) + (1 : Int32)))) hx hb hts inX6_putConstant_X6 tyX6 tyX6_ok nmX6 hown hKK hok wkM hz 0 rfl rfl 18 (by decide) (hts _ (List.mem_of_getElem? (i := 6) rfl)) (fun _ h9 => h9) rfl rfl rfl rfl (Nat.le_of_ble_eq_true rfl) setMi_49 dX6_putConstant_111 (fun H locs hz => ?_)
          refine lv_iconst (v := (1 : Int32)) hx hb dX6_putConstant_114 (by decide) ?_
          exact rt (1 : Int32) (si (sa (sa σ 10 (Int32.toNatClampNeg (σ 49 0)) ((σ 3) (Int32.toNatClampNeg y1))) 11 (Int32.toNatClampNeg (σ 49 0)) y2) 49 ((σ 49 0) + (1 : Int32))) 115 _ _ _ dX6_putConstant_115 h hz (Or.inr rfl)
        · replace h := ite_t c7 h
          exact b72  σ y1 _ _ _ h hz (lv_sub hl [0, 1] rfl)
    · replace h := ite_f c1 h
      refine lv_aload_n hx hb dX6_putConstant_14 rfl (lv_at hl 0 rfl) ?_
      refine va_get (v := .ref (a 2)) hx hb hts inX6_putConstant_X6 hown hKK.1 hz.1 0 rfl rfl 3 (by decide) (hts _ (List.mem_of_getElem? (i := 2) rfl)) (fun _ h9 => h9) rfl dX6_putConstant_15 ?_
      refine lv_iload_n hx hb dX6_putConstant_18 rfl (lv_at hl 3 rfl) ?_
      obtain ⟨c11, h⟩ := ck_e h
      refine va_iald (f := (σ 2)) hx hb hKK.1 hz.1 2 0 rfl rfl c11 dX6_putConstant_19 ?_
      refine lv_iconst (v := (5 : Int32)) hx hb dX6_putConstant_20 (by decide) ?_
      refine lv_icmp_ne (tgt := 50) hx hb dX6_putConstant_21 (by decide) (fun c12 => ?_) (fun c12 => ?_)
      · replace h := ite_f c12 h
        refine lv_iload_n hx hb dX6_putConstant_50 rfl (lv_at hl 2 rfl) ?_
        refine lv_istore_n (lv' := [(2, .int y2), (0, .ref (a 0)), (1, .int y1), (3, .int y3)]) hx hb dX6_putConstant_51 rfl hl (by decide) rfl (fun ls hl => ?_)
        refine lv_iinc (v := (y3 + (1 : Int32))) (lv' := [(3, .int (y3 + (1 : Int32))), (2, .int y2), (0, .ref (a 0)), (1, .int y1)]) hx hb dX6_putConstant_52 hl (k := 3) rfl rfl (by decide) rfl (fun ls hl => ?_)
        refine lv_goto (tgt := 6) hx hb dX6_putConstant_55 (by decide) ?_
        exact hk6 σ y1 y2 (y3 + (1 : Int32)) _ _ _ h hz (lv_sub hl [2, 3, 1, 0] rfl)
      · replace h := ite_t c12 h
        refine lv_aload_n hx hb dX6_putConstant_24 rfl (lv_at hl 0 rfl) ?_
        refine va_get (v := .ref (a 16)) hx hb hts inX6_putConstant_X6 hown hKK.1 hz.1 0 rfl rfl 25 (by decide) (hts _ (List.mem_of_getElem? (i := 3) rfl)) (fun _ h9 => h9) rfl dX6_putConstant_25 ?_
        refine lv_iload_n hx hb dX6_putConstant_28 rfl (lv_at hl 3 rfl) ?_
        obtain ⟨c13, h⟩ := ck_e h
        refine va_iald (f := (σ 16)) hx hb hKK.1 hz.1 16 0 rfl rfl c13 dX6_putConstant_29 ?_
        refine lv_aload_n hx hb dX6_putConstant_30 rfl (lv_at hl 0 rfl) ?_
        refine va_get (v := .ref (a 12)) hx hb hts inX6_putConstant_X6 hown hKK.1 hz.1 0 rfl rfl 21 (by decide) (hts _ (List.mem_of_getElem? (i := 4) rfl)) (fun _ h9 => h9) rfl dX6_putConstant_31 ?_
        refine lv_iload_n hx hb dX6_putConstant_34 rfl (lv_at hl 1 rfl) ?_
        obtain ⟨c14, h⟩ := ck_e h
        refine va_iald (f := (σ 12)) hx hb hKK.1 hz.1 12 0 rfl rfl c14 dX6_putConstant_35 ?_
        refine lv_isub hx hb dX6_putConstant_36 ?_
        refine lv_aload_n hx hb dX6_putConstant_37 rfl (lv_at hl 0 rfl) ?_
        refine va_get (v := .ref (a 4)) hx hb hts inX6_putConstant_X6 hown hKK.1 hz.1 0 rfl rfl 7 (by decide) (hts _ (List.mem_of_getElem? (i := 5) rfl)) (fun _ h9 => h9) rfl dX6_putConstant_38 ?_
        refine lv_iconst (v := (2 : Int32)) hx hb dX6_putConstant_41 (by decide) ?_
        refine va_iald (f := (σ 4)) hx hb hKK.1 hz.1 4 0 rfl rfl (by decide : vp_inD (2 : Int32) 3) dX6_putConstant_42 ?_
        refine lv_icmp_gt (tgt := 50) hx hb dX6_putConstant_43 (by decide) (fun c15 => ?_) (fun c15 => ?_)
        · replace h := ite_t c15 h
          refine lv_iload_n hx hb dX6_putConstant_50 rfl (lv_at hl 2 rfl) ?_
          refine lv_istore_n (lv' := [(2, .int y2), (0, .ref (a 0)), (1, .int y1), (3, .int y3)]) hx hb dX6_putConstant_51 rfl hl (by decide) rfl (fun ls hl => ?_)
          refine lv_iinc (v := (y3 + (1 : Int32))) (lv' := [(3, .int (y3 + (1 : Int32))), (2, .int y2), (0, .ref (a 0)), (1, .int y1)]) hx hb dX6_putConstant_52 hl (k := 3) rfl rfl (by decide) rfl (fun ls hl => ?_)
          refine lv_goto (tgt := 6) hx hb dX6_putConstant_55 (by decide) ?_
          exact hk6 σ y1 y2 (y3 + (1 : Int32)) _ _ _ h hz (lv_sub hl [2, 3, 1, 0] rfl)
        · replace h := ite_f c15 h
          refine lv_iload_n hx hb dX6_putConstant_46 rfl (lv_at hl 3 rfl) ?_
          refine lv_goto (tgt := 51) hx hb dX6_putConstant_47 (by decide) ?_
          refine lv_istore_n (lv' := [(2, .int y3), (0, .ref (a 0)), (1, .int y1), (3, .int y3)]) hx hb dX6_putConstant_51 rfl hl (by decide) rfl (fun ls hl => ?_)
          refine lv_iinc (v := (y3 + (1 : Int32))) (lv' := [(3, .int (y3 + (1 : Int32))), (2, .int y3), (0, .ref (a 0)), (1, .int y1)]) hx hb dX6_putConstant_52 hl (k := 3) rfl rfl (by decide) rfl (fun ls hl => ?_)
          refine lv_goto (tgt := 6) hx hb dX6_putConstant_55 (by decide) ?_
          exact hk6 σ y1 y3 (y3 + (1 : Int32)) _ _ _ h hz (lv_sub hl [2, 3, 1, 0] rfl)
  have l6 : ∀  (n : Nat), ∀ (σ : St) (y1 : Int32) (y2 : Int32) (y3 : Int32) (H : Heap) (locs : List Loc) (ls : Array Slot), fX6_putConstant_l6  n σ y1 y2 y3 = some (r, σ2) → zz (dC, dI) 18 a (wdM cI cZ a hh σ) s.heap H locs → lv_has ls 4 [(0, .ref (a 0)), (1, .int y1), (2, .int y2), (3, .int y3)] → W p l e rmX6_putConstant s m args below meth c H locs 0 0 Q (F0 m 6 ls []) := by
    intro  n
    induction n with
    | zero => intro σ y1 y2 y3 H locs ls h; exact nomatch h
    | succ n ih => exact s6  (fX6_putConstant_l6  n) ih
  unfold fX6_putConstant at h
  refine lv_iconst (v := (-1 : Int32)) hx hb dX6_putConstant_0 (by decide) ?_
  refine lv_istore_n (lv' := [(2, .int (-1 : Int32)), (0, .ref (a 0)), (1, .int x1)]) hx hb dX6_putConstant_1 rfl hl (by decide) rfl (fun ls hl => ?_)
  refine lv_iload_n hx hb dX6_putConstant_2 rfl (lv_at hl 2 rfl) ?_
  refine lv_iconst (v := (1 : Int32)) hx hb dX6_putConstant_3 (by decide) ?_
  refine lv_iadd hx hb dX6_putConstant_4 ?_
  refine lv_istore_n (lv' := [(3, .int (x1 + (1 : Int32))), (2, .int (-1 : Int32)), (0, .ref (a 0)), (1, .int x1)]) hx hb dX6_putConstant_5 rfl hl (by decide) rfl (fun ls hl => ?_)
  exact l6  FU σ x1 (-1 : Int32) (x1 + (1 : Int32)) _ _ _ h hz (lv_sub hl [2, 3, 1, 0] rfl)
def fX6_gapFor_s17 (σ : St) (k17 : Int32 → Int32 → Int32 → Int32 → Int32 → Option (Int32)) (y1 : Int32) (y2 : Int32) (y3 : Int32) (y4 : Int32) (y5 : Int32) : Option (Int32) :=
  (if (σ 41 0) ≤ y5 then (some y3) else ((ck (¬ (y5 < 0 ∨ 24 ≤ Int32.toNatClampNeg y5)) <| (if ((σ 2) (Int32.toNatClampNeg y5)) = (5 : Int32) then ((ck (¬ (y5 < 0 ∨ 24 ≤ Int32.toNatClampNeg y5)) <| (bd1 (fX6_apart σ ((σ 15) (Int32.toNatClampNeg y5)) y1) fun r9 => (if ((σ 4) (Int32.toNatClampNeg (1 : Int32))) < r9 then (k17 y1 y2 y3 y4 (y5 + (1 : Int32))) else ((ck (¬ (y5 < 0 ∨ 24 ≤ Int32.toNatClampNeg y5)) <| (ck (¬ (y2 < 0 ∨ 8 ≤ Int32.toNatClampNeg y2)) <| (bd1 (fX6_apart σ ((σ 15) (Int32.toNatClampNeg y5)) ((σ 17) (Int32.toNatClampNeg y2))) fun r15 => (if y4 ≤ r15 then (k17 y1 y2 y3 y4 (y5 + (1 : Int32))) else ((ck (¬ (y5 < 0 ∨ 24 ≤ Int32.toNatClampNeg y5)) <| (ck (¬ (y2 < 0 ∨ 8 ≤ Int32.toNatClampNeg y2)) <| (bd1 (fX6_apart σ ((σ 15) (Int32.toNatClampNeg y5)) ((σ 17) (Int32.toNatClampNeg y2))) fun r21 => k17 y1 y2 y5 r21 (y5 + (1 : Int32))))))))))))))) else (k17 y1 y2 y3 y4 (y5 + (1 : Int32)))))))
def fX6_gapFor_l17 (σ : St)  : Nat → Int32 → Int32 → Int32 → Int32 → Int32 → Option (Int32) :=
  itr (fX6_gapFor_s17 σ ) (fun _ _ _ _ _ => none)
def fX6_gapFor (σ : St) (x1 : Int32) (x2 : Int32) : Option (Int32) :=
  (ck (¬ (x2 < 0 ∨ 8 ≤ Int32.toNatClampNeg x2)) <| (bd1 (fX6_apart σ x1 ((σ 17) (Int32.toNatClampNeg x2))) fun r2 => fX6_gapFor_l17 σ  FU x1 x2 (-1 : Int32) r2 (0 : Int32)))
abbrev rmX6_gapFor : Room := { frames := 1, cells := 0, slots := 0, locals := 21 }
set_option maxHeartbeats 4000000 in
set_option maxRecDepth 100000 in
theorem KX6_gapFor {l : Launch} {dC : Nat → ClassId} {dI : Nat → Nat → Nat} {cI cZ : ClassId} {a : Nat → Nat} {hh : Int64} {σ : St} {x1 : Int32} {x2 : Int32} {r : Int32} (hok : okA 18 a) (h : fX6_gapFor σ x1 x2 = some r) (sz : Nat) : Met l yX6_gapFor wsX6_gapFor rmX6_gapFor (Pz (dC, dI) cI cZ (wdM cI cZ a hh σ) sz [.ref (a 0), .int x1, .int x2]) (Qzi (dC, dI) 18 a (wdM cI cZ a hh σ) sz r) 0 0 (aN 18 a sz) := by
  refine Met.ofW (cc := cX6_gapFor) (maxL := 6) (ret := (some .int)) (by decide) rfl ?_
  intro p e s m args below meth c s₁ B hml hv
  obtain ⟨hav, hsz, hP, hKK⟩ := hv
  have hx := B.exec
  have hb := B.bytes
  have hr := B.returns
  have hts := atoms_spec (ws := wsX6_gapFor) B.pre
  have hown : s.vm.findClass RX6 = some m.cls := findClass_of_methodNamed B.named
  have hlocks := B.notSynchronized
  have CF : CallFix p m c cX6_gapFor 6 s args wsX6_gapFor RX6 := ⟨hx, hb, hml, hown, hts⟩
  have hz : zz (dC, dI) 18 a (wdM cI cZ a hh σ) s.heap s.heap [] := ⟨hP, va_S.rf⟩
  have hl := lv_entry [.ref (a 0), .int x1, .int x2] (n := 6) (Nat.le_of_ble_eq_true rfl)
  have hen : entryFrame m args 6 = entryFrame m ([.ref (a 0), .int x1, .int x2] : List Value).toArray 6 := by rw [hav]
  rw [hen, lg_entry_eq]
  generalize (lg_sl [.ref (a 0), .int x1, .int x2] ++ List.replicate (6 - (lg_sl [.ref (a 0), .int x1, .int x2]).length) Slot.unset).toArray = ls at hl ⊢
  have hl : lv_has ls 6 [(0, .ref (a 0)), (1, .int x1), (2, .int x2)] := hl
  have eR : (headSpec wsX6_gapFor rmX6_gapFor).room = rmX6_gapFor := rfl
  rw [eR]
  have rt : ∀ (v : Int32) (t : St) (pc : Nat) (H : Heap) (locs : List Loc) (ls : Array Slot), decode cX6_gapFor pc = .ok (.ireturn, 1) → some v = some r → zz (dC, dI) 18 a (wdM cI cZ a hh σ) s.heap H locs → W p l e rmX6_gapFor s m args below meth c H locs 0 0 (MQ below (Qzi (dC, dI) 18 a (wdM cI cZ a hh σ) sz r) args s 0 0 (aN 18 a sz)) (F0 m pc ls [.int v]) := by
    intro v t pc H locs ls hd h hz
    cases h
    exact ziret hsz hx hb hr hlocks hz hd
  generalize (MQ below (Qzi (dC, dI) 18 a (wdM cI cZ a hh σ) sz r) args s 0 0 (aN 18 a sz)) = Q at rt ⊢
  have s17 : ∀ (k17 : Int32 → Int32 → Int32 → Int32 → Int32 → Option (Int32)) (hk17 : (∀ (y1 : Int32) (y2 : Int32) (y3 : Int32) (y4 : Int32) (y5 : Int32) (H : Heap) (locs : List Loc) (ls : Array Slot), k17 y1 y2 y3 y4 y5 = some r → zz (dC, dI) 18 a (wdM cI cZ a hh σ) s.heap H locs → lv_has ls 6 [(0, .ref (a 0)), (1, .int y1), (2, .int y2), (3, .int y3), (4, .int y4), (5, .int y5)] → W p l e rmX6_gapFor s m args below meth c H locs 0 0 Q (F0 m 17 ls []))) (y1 : Int32) (y2 : Int32) (y3 : Int32) (y4 : Int32) (y5 : Int32) (H : Heap) (locs : List Loc) (ls : Array Slot), fX6_gapFor_s17 σ k17 y1 y2 y3 y4 y5 = some r → zz (dC, dI) 18 a (wdM cI cZ a hh σ) s.heap H locs → lv_has ls 6 [(0, .ref (a 0)), (1, .int y1), (2, .int y2), (3, .int y3), (4, .int y4), (5, .int y5)] → W p l e rmX6_gapFor s m args below meth c H locs 0 0 Q (F0 m 17 ls []) := by
    intro k17 hk17 y1 y2 y3 y4 y5 H locs ls h hz hl
    unfold fX6_gapFor_s17 at h
    refine lv_iload hx hb dX6_gapFor_17 (lv_at hl 5 rfl) ?_
    refine lv_aload_n hx hb dX6_gapFor_19 rfl (lv_at hl 0 rfl) ?_
    refine va_get (v := .int (σ 41 0)) hx hb hts inX6_gapFor_X6 hown hKK.1 hz.1 0 rfl rfl 2 (by decide) (hts _ (List.mem_of_getElem? (i := 2) rfl)) (fun _ h9 => h9) rfl dX6_gapFor_20 ?_
    refine lv_icmp_ge (tgt := 105) hx hb dX6_gapFor_23 (by decide) (fun c5 => ?_) (fun c5 => ?_)
    · replace h := ite_t c5 h
      refine lv_iload_n hx hb dX6_gapFor_105 rfl (lv_at hl 3 rfl) ?_
      exact rt y3 σ 106 _ _ _ dX6_gapFor_106 h hz
    · replace h := ite_f c5 h
      refine lv_aload_n hx hb dX6_gapFor_26 rfl (lv_at hl 0 rfl) ?_
      refine va_get (v := .ref (a 2)) hx hb hts inX6_gapFor_X6 hown hKK.1 hz.1 0 rfl rfl 3 (by decide) (hts _ (List.mem_of_getElem? (i := 3) rfl)) (fun _ h9 => h9) rfl dX6_gapFor_27 ?_
      refine lv_iload hx hb dX6_gapFor_30 (lv_at hl 5 rfl) ?_
      obtain ⟨c6, h⟩ := ck_e h
      refine va_iald (f := (σ 2)) hx hb hKK.1 hz.1 2 0 rfl rfl c6 dX6_gapFor_32 ?_
      refine lv_iconst (v := (5 : Int32)) hx hb dX6_gapFor_33 (by decide) ?_
      refine lv_icmp_ne (tgt := 99) hx hb dX6_gapFor_34 (by decide) (fun c7 => ?_) (fun c7 => ?_)
      · replace h := ite_f c7 h
        refine lv_iinc (v := (y5 + (1 : Int32))) (lv' := [(5, .int (y5 + (1 : Int32))), (0, .ref (a 0)), (1, .int y1), (2, .int y2), (3, .int y3), (4, .int y4)]) hx hb dX6_gapFor_99 hl (k := 5) rfl rfl (by decide) rfl (fun ls hl => ?_)
        refine lv_goto (tgt := 17) hx hb dX6_gapFor_102 (by decide) ?_
        exact hk17 y1 y2 y3 y4 (y5 + (1 : Int32)) _ _ _ h hz (lv_sub hl [1, 2, 3, 4, 5, 0] rfl)
      · replace h := ite_t c7 h
        refine lv_aload_n hx hb dX6_gapFor_37 rfl (lv_at hl 0 rfl) ?_
        refine va_get (v := .ref (a 15)) hx hb hts inX6_gapFor_X6 hown hKK.1 hz.1 0 rfl rfl 24 (by decide) (hts _ (List.mem_of_getElem? (i := 4) rfl)) (fun _ h9 => h9) rfl dX6_gapFor_38 ?_
        refine lv_iload hx hb dX6_gapFor_41 (lv_at hl 5 rfl) ?_
        obtain ⟨c8, h⟩ := ck_e h
        refine va_iald (f := (σ 15)) hx hb hKK.1 hz.1 15 0 rfl rfl c8 dX6_gapFor_43 ?_
        refine lv_iload_n hx hb dX6_gapFor_44 rfl (lv_at hl 1 rfl) ?_
        obtain ⟨r9, e11, h⟩ := bd1_e h
        refine zcallSi (As := [.int ((σ 15) (Int32.toNatClampNeg y5)), .int y1]) (rest := []) CF hKK (KX6_apart (dC := dC) (dI := dI) (cI := cI) (cZ := cZ) (a := a) hok e11) (va_cwS 2 hts gX6_gapFor_X6_apart rfl rfl rfl cdX6_apart.2 ⟨Nat.le_of_ble_eq_true rfl, Nat.le_of_ble_eq_true rfl⟩) hz rfl hl.1 rfl (Nat.le_of_ble_eq_true rfl) dX6_gapFor_45 ⟨Nat.le_refl _, Nat.le_refl _⟩ (fun H locs hz => ?_)
        refine lv_aload_n hx hb dX6_gapFor_48 rfl (lv_at hl 0 rfl) ?_
        refine va_get (v := .ref (a 4)) hx hb hts inX6_gapFor_X6 hown hKK.1 hz.1 0 rfl rfl 7 (by decide) (hts _ (List.mem_of_getElem? (i := 5) rfl)) (fun _ h9 => h9) rfl dX6_gapFor_49 ?_
        refine lv_iconst (v := (1 : Int32)) hx hb dX6_gapFor_52 (by decide) ?_
        refine va_iald (f := (σ 4)) hx hb hKK.1 hz.1 4 0 rfl rfl (by decide : vp_inD (1 : Int32) 3) dX6_gapFor_53 ?_
        refine lv_icmp_gt (tgt := 99) hx hb dX6_gapFor_54 (by decide) (fun c12 => ?_) (fun c12 => ?_)
        · replace h := ite_t c12 h
          refine lv_iinc (v := (y5 + (1 : Int32))) (lv' := [(5, .int (y5 + (1 : Int32))), (0, .ref (a 0)), (1, .int y1), (2, .int y2), (3, .int y3), (4, .int y4)]) hx hb dX6_gapFor_99 hl (k := 5) rfl rfl (by decide) rfl (fun ls hl => ?_)
          refine lv_goto (tgt := 17) hx hb dX6_gapFor_102 (by decide) ?_
          exact hk17 y1 y2 y3 y4 (y5 + (1 : Int32)) _ _ _ h hz (lv_sub hl [1, 2, 3, 4, 5, 0] rfl)
        · replace h := ite_f c12 h
          refine lv_aload_n hx hb dX6_gapFor_57 rfl (lv_at hl 0 rfl) ?_
          refine va_get (v := .ref (a 15)) hx hb hts inX6_gapFor_X6 hown hKK.1 hz.1 0 rfl rfl 24 (by decide) (hts _ (List.mem_of_getElem? (i := 4) rfl)) (fun _ h9 => h9) rfl dX6_gapFor_58 ?_
          refine lv_iload hx hb dX6_gapFor_61 (lv_at hl 5 rfl) ?_
          obtain ⟨c13, h⟩ := ck_e h
          refine va_iald (f := (σ 15)) hx hb hKK.1 hz.1 15 0 rfl rfl c13 dX6_gapFor_63 ?_
          refine lv_aload_n hx hb dX6_gapFor_64 rfl (lv_at hl 0 rfl) ?_
          refine va_get (v := .ref (a 17)) hx hb hts inX6_gapFor_X6 hown hKK.1 hz.1 0 rfl rfl 26 (by decide) (hts _ (List.mem_of_getElem? (i := 1) rfl)) (fun _ h9 => h9) rfl dX6_gapFor_65 ?_
          refine lv_iload_n hx hb dX6_gapFor_68 rfl (lv_at hl 2 rfl) ?_
          obtain ⟨c14, h⟩ := ck_e h
          refine va_iald (f := (σ 17)) hx hb hKK.1 hz.1 17 0 rfl rfl c14 dX6_gapFor_69 ?_
          obtain ⟨r15, e17, h⟩ := bd1_e h
          refine zcallSi (As := [.int ((σ 15) (Int32.toNatClampNeg y5)), .int ((σ 17) (Int32.toNatClampNeg y2))]) (rest := []) CF hKK (KX6_apart (dC := dC) (dI := dI) (cI := cI) (cZ := cZ) (a := a) hok e17) (va_cwS 2 hts gX6_gapFor_X6_apart rfl rfl rfl cdX6_apart.2 ⟨Nat.le_of_ble_eq_true rfl, Nat.le_of_ble_eq_true rfl⟩) hz rfl hl.1 rfl (Nat.le_of_ble_eq_true rfl) dX6_gapFor_70 ⟨Nat.le_refl _, Nat.le_refl _⟩ (fun H locs hz => ?_)
          refine lv_iload hx hb dX6_gapFor_73 (lv_at hl 4 rfl) ?_
          refine lv_icmp_ge (tgt := 99) hx hb dX6_gapFor_75 (by decide) (fun c18 => ?_) (fun c18 => ?_)
          · replace h := ite_t c18 h
            refine lv_iinc (v := (y5 + (1 : Int32))) (lv' := [(5, .int (y5 + (1 : Int32))), (0, .ref (a 0)), (1, .int y1), (2, .int y2), (3, .int y3), (4, .int y4)]) hx hb dX6_gapFor_99 hl (k := 5) rfl rfl (by decide) rfl (fun ls hl => ?_)
            refine lv_goto (tgt := 17) hx hb dX6_gapFor_102 (by decide) ?_
            exact hk17 y1 y2 y3 y4 (y5 + (1 : Int32)) _ _ _ h hz (lv_sub hl [1, 2, 3, 4, 5, 0] rfl)
          · replace h := ite_f c18 h
            refine lv_iload hx hb dX6_gapFor_78 (lv_at hl 5 rfl) ?_
            refine lv_istore_n (lv' := [(3, .int y5), (0, .ref (a 0)), (1, .int y1), (2, .int y2), (4, .int y4), (5, .int y5)]) hx hb dX6_gapFor_80 rfl hl (by decide) rfl (fun ls hl => ?_)
            refine lv_aload_n hx hb dX6_gapFor_81 rfl (lv_at hl 1 rfl) ?_
            refine va_get (v := .ref (a 15)) hx hb hts inX6_gapFor_X6 hown hKK.1 hz.1 0 rfl rfl 24 (by decide) (hts _ (List.mem_of_getElem? (i := 4) rfl)) (fun _ h9 => h9) rfl dX6_gapFor_82 ?_
            refine lv_iload hx hb dX6_gapFor_85 (lv_at hl 5 rfl) ?_
            obtain ⟨c19, h⟩ := ck_e h
            refine va_iald (f := (σ 15)) hx hb hKK.1 hz.1 15 0 rfl rfl c19 dX6_gapFor_87 ?_
            refine lv_aload_n hx hb dX6_gapFor_88 rfl (lv_at hl 1 rfl) ?_
            refine va_get (v := .ref (a 17)) hx hb hts inX6_gapFor_X6 hown hKK.1 hz.1 0 rfl rfl 26 (by decide) (hts _ (List.mem_of_getElem? (i := 1) rfl)) (fun _ h9 => h9) rfl dX6_gapFor_89 ?_
            refine lv_iload_n hx hb dX6_gapFor_92 rfl (lv_at hl 3 rfl) ?_
            obtain ⟨c20, h⟩ := ck_e h
            refine va_iald (f := (σ 17)) hx hb hKK.1 hz.1 17 0 rfl rfl c20 dX6_gapFor_93 ?_
            obtain ⟨r21, e23, h⟩ := bd1_e h
            refine zcallSi (As := [.int ((σ 15) (Int32.toNatClampNeg y5)), .int ((σ 17) (Int32.toNatClampNeg y2))]) (rest := []) CF hKK (KX6_apart (dC := dC) (dI := dI) (cI := cI) (cZ := cZ) (a := a) hok e23) (va_cwS 2 hts gX6_gapFor_X6_apart rfl rfl rfl cdX6_apart.2 ⟨Nat.le_of_ble_eq_true rfl, Nat.le_of_ble_eq_true rfl⟩) hz rfl hl.1 rfl (Nat.le_of_ble_eq_true rfl) dX6_gapFor_94 ⟨Nat.le_refl _, Nat.le_refl _⟩ (fun H locs hz => ?_)
            refine lv_istore (lv' := [(4, .int r21), (3, .int y5), (0, .ref (a 0)), (1, .int y1), (2, .int y2), (5, .int y5)]) hx hb dX6_gapFor_97 hl (by decide) rfl (fun ls hl => ?_)
            refine lv_iinc (v := (y5 + (1 : Int32))) (lv' := [(5, .int (y5 + (1 : Int32))), (4, .int r21), (3, .int y5), (0, .ref (a 0)), (1, .int y1), (2, .int y2)]) hx hb dX6_gapFor_99 hl (k := 5) rfl rfl (by decide) rfl (fun ls hl => ?_)
            refine lv_goto (tgt := 17) hx hb dX6_gapFor_102 (by decide) ?_
            exact hk17 y1 y2 y5 r21 (y5 + (1 : Int32)) _ _ _ h hz (lv_sub hl [3, 4, 5, 2, 1, 0] rfl)
  have l17 : ∀  (n : Nat), ∀ (y1 : Int32) (y2 : Int32) (y3 : Int32) (y4 : Int32) (y5 : Int32) (H : Heap) (locs : List Loc) (ls : Array Slot), fX6_gapFor_l17 σ  n y1 y2 y3 y4 y5 = some r → zz (dC, dI) 18 a (wdM cI cZ a hh σ) s.heap H locs → lv_has ls 6 [(0, .ref (a 0)), (1, .int y1), (2, .int y2), (3, .int y3), (4, .int y4), (5, .int y5)] → W p l e rmX6_gapFor s m args below meth c H locs 0 0 Q (F0 m 17 ls []) := by
    intro  n
    induction n with
    | zero => intro y1 y2 y3 y4 y5 H locs ls h; exact nomatch h
    | succ n ih => exact s17  (fX6_gapFor_l17 σ  n) ih
  unfold fX6_gapFor at h
  refine lv_iconst (v := (-1 : Int32)) hx hb dX6_gapFor_0 (by decide) ?_
  refine lv_istore_n (lv' := [(3, .int (-1 : Int32)), (0, .ref (a 0)), (1, .int x1), (2, .int x2)]) hx hb dX6_gapFor_1 rfl hl (by decide) rfl (fun ls hl => ?_)
  refine lv_iload_n hx hb dX6_gapFor_2 rfl (lv_at hl 2 rfl) ?_
  refine lv_aload_n hx hb dX6_gapFor_3 rfl (lv_at hl 1 rfl) ?_
  refine va_get (v := .ref (a 17)) hx hb hts inX6_gapFor_X6 hown hKK.1 hz.1 0 rfl rfl 26 (by decide) (hts _ (List.mem_of_getElem? (i := 1) rfl)) (fun _ h9 => h9) rfl dX6_gapFor_4 ?_
  refine lv_iload_n hx hb dX6_gapFor_7 rfl (lv_at hl 3 rfl) ?_
  obtain ⟨c1, h⟩ := ck_e h
  refine va_iald (f := (σ 17)) hx hb hKK.1 hz.1 17 0 rfl rfl c1 dX6_gapFor_8 ?_
  obtain ⟨r2, e4, h⟩ := bd1_e h
  refine zcallSi (As := [.int x1, .int ((σ 17) (Int32.toNatClampNeg x2))]) (rest := []) CF hKK (KX6_apart (dC := dC) (dI := dI) (cI := cI) (cZ := cZ) (a := a) hok e4) (va_cwS 2 hts gX6_gapFor_X6_apart rfl rfl rfl cdX6_apart.2 ⟨Nat.le_of_ble_eq_true rfl, Nat.le_of_ble_eq_true rfl⟩) hz rfl hl.1 rfl (Nat.le_of_ble_eq_true rfl) dX6_gapFor_9 ⟨Nat.le_refl _, Nat.le_refl _⟩ (fun H locs hz => ?_)
  refine lv_istore (lv' := [(4, .int r2), (3, .int (-1 : Int32)), (0, .ref (a 0)), (1, .int x1), (2, .int x2)]) hx hb dX6_gapFor_12 hl (by decide) rfl (fun ls hl => ?_)
  refine lv_iconst (v := (0 : Int32)) hx hb dX6_gapFor_14 (by decide) ?_
  refine lv_istore (lv' := [(5, .int (0 : Int32)), (4, .int r2), (3, .int (-1 : Int32)), (0, .ref (a 0)), (1, .int x1), (2, .int x2)]) hx hb dX6_gapFor_15 hl (by decide) rfl (fun ls hl => ?_)
  exact l17  FU x1 x2 (-1 : Int32) r2 (0 : Int32) _ _ _ h hz (lv_sub hl [3, 4, 5, 2, 1, 0] rfl)
def fX6_putIsland_b23  (σ : St) (y3 : Int32) (y4 : Int32) : Option (Int32 × St) :=
  (bd2 (fX6_fails σ y3 y4) fun r5 s6 => (ck (r5 = 0 ∨ r5 = 1) <| some (r5, s6)))
def fX6_putIsland (σ : St) (x1 : Int32) (x2 : Int32) (x3 : Int32) (x4 : Int32) : Option (Int32 × St) :=
  (bd1 (fX6_gapFor σ x1 x2) fun r1 => (if r1 = (-1 : Int32) then (fX6_putIsland_b23  σ x3 x4) else ((if (σ 48 0) = (12 : Int32) then (fX6_putIsland_b23  σ x3 x4) else ((ck (¬ ((σ 48 0) < 0 ∨ 12 ≤ Int32.toNatClampNeg (σ 48 0))) <| (ck (¬ ((σ 48 0) < 0 ∨ 12 ≤ Int32.toNatClampNeg (σ 48 0))) <| some ((1 : Int32), (si (sa (sa σ 8 (Int32.toNatClampNeg (σ 48 0)) x2) 9 (Int32.toNatClampNeg (σ 48 0)) r1) 48 ((σ 48 0) + (1 : Int32)))))))))))
abbrev rmX6_putIsland : Room := { frames := 2, cells := 0, slots := 0, locals := 46 }
set_option maxHeartbeats 4000000 in
set_option maxRecDepth 100000 in
theorem KX6_putIsland {l : Launch} {dC : Nat → ClassId} {dI : Nat → Nat → Nat} {cI cZ : ClassId} {a : Nat → Nat} {hh : Int64} {σ : St} {x1 : Int32} {x2 : Int32} {x3 : Int32} {x4 : Int32} {r : Int32} {σ2 : St} (hok : okA 18 a) (h : fX6_putIsland σ x1 x2 x3 x4 = some (r, σ2)) (sz : Nat) : Met l yX6_putIsland wsX6_putIsland rmX6_putIsland (Pz (dC, dI) cI cZ (wdM cI cZ a hh σ) sz [.ref (a 0), .int x1, .int x2, .int x3, .int x4]) (Qzi (dC, dI) 18 a (wdM cI cZ a hh σ2) sz r) 0 0 (aN 18 a sz) := by
  refine Met.ofW (cc := cX6_putIsland) (maxL := 6) (ret := (some .boolean)) (by decide) rfl ?_
  intro p e s m args below meth c s₁ B hml hv
  obtain ⟨hav, hsz, hP, hKK⟩ := hv
  have hx := B.exec
  have hb := B.bytes
  have hr := B.returns
  have hts := atoms_spec (ws := wsX6_putIsland) B.pre
  have hown : s.vm.findClass RX6 = some m.cls := findClass_of_methodNamed B.named
  have hlocks := B.notSynchronized
  have CF : CallFix p m c cX6_putIsland 6 s args wsX6_putIsland RX6 := ⟨hx, hb, hml, hown, hts⟩
  have hz : zz (dC, dI) 18 a (wdM cI cZ a hh σ) s.heap s.heap [] := ⟨hP, va_S.rf⟩
  have hl := lv_entry [.ref (a 0), .int x1, .int x2, .int x3, .int x4] (n := 6) (Nat.le_of_ble_eq_true rfl)
  have hen : entryFrame m args 6 = entryFrame m ([.ref (a 0), .int x1, .int x2, .int x3, .int x4] : List Value).toArray 6 := by rw [hav]
  rw [hen, lg_entry_eq]
  generalize (lg_sl [.ref (a 0), .int x1, .int x2, .int x3, .int x4] ++ List.replicate (6 - (lg_sl [.ref (a 0), .int x1, .int x2, .int x3, .int x4]).length) Slot.unset).toArray = ls at hl ⊢
  have hl : lv_has ls 6 [(0, .ref (a 0)), (1, .int x1), (2, .int x2), (3, .int x3), (4, .int x4)] := hl
  have eR : (headSpec wsX6_putIsland rmX6_putIsland).room = rmX6_putIsland := rfl
  rw [eR]
  have rt : ∀ (v : Int32) (t : St) (pc : Nat) (H : Heap) (locs : List Loc) (ls : Array Slot), decode cX6_putIsland pc = .ok (.ireturn, 1) → some (v, t) = some (r, σ2) → zz (dC, dI) 18 a (wdM cI cZ a hh t) s.heap H locs → (v = 0 ∨ v = 1) → W p l e rmX6_putIsland s m args below meth c H locs 0 0 (MQ below (Qzi (dC, dI) 18 a (wdM cI cZ a hh σ2) sz r) args s 0 0 (aN 18 a sz)) (F0 m pc ls [.int v]) := by
    intro v t pc H locs ls hd h hz hv
    cases h
    exact zzret hsz hx hb hr hlocks hv hz hd
  generalize (MQ below (Qzi (dC, dI) 18 a (wdM cI cZ a hh σ2) sz r) args s 0 0 (aN 18 a sz)) = Q at rt ⊢
  have b23 : ∀  (σ : St) (y3 : Int32) (y4 : Int32) (H : Heap) (locs : List Loc) (ls : Array Slot), fX6_putIsland_b23  σ y3 y4 = some (r, σ2) → zz (dC, dI) 18 a (wdM cI cZ a hh σ) s.heap H locs → lv_has ls 6 [(0, .ref (a 0)), (3, .int y3), (4, .int y4)] → W p l e rmX6_putIsland s m args below meth c H locs 0 0 Q (F0 m 23 ls []) := by
    intro  σ y3 y4 H locs ls h hz hl
    unfold fX6_putIsland_b23 at h
    refine lv_aload_n hx hb dX6_putIsland_23 rfl (lv_at hl 0 rfl) ?_
    refine lv_iload_n hx hb dX6_putIsland_24 rfl (lv_at hl 1 rfl) ?_
    refine lv_iload hx hb dX6_putIsland_25 (lv_at hl 2 rfl) ?_
    obtain ⟨r5, s6, e7, h⟩ := bd2_e h
    refine zcallVi (As := [.int y3, .int y4]) (rest := []) CF hKK (KX6_fails (dC := dC) (dI := dI) (cI := cI) (cZ := cZ) (a := a) hok e7) (cwV 2 hts gX6_putIsland_X6_fails rfl rfl rfl cdX6_fails ⟨Nat.le_of_ble_eq_true rfl, Nat.le_of_ble_eq_true rfl⟩) 0 6 rfl rfl hz rfl hl.1 rfl (Nat.le_of_ble_eq_true rfl) dX6_putIsland_27 ⟨Nat.le_refl _, Nat.le_refl _⟩ (fun H locs hz => ?_)
    obtain ⟨c8, h⟩ := ck_e h
    exact rt r5 s6 30 _ _ _ dX6_putIsland_30 h hz c8
  unfold fX6_putIsland at h
  refine lv_aload_n hx hb dX6_putIsland_0 rfl (lv_at hl 0 rfl) ?_
  refine lv_iload_n hx hb dX6_putIsland_1 rfl (lv_at hl 1 rfl) ?_
  refine lv_iload_n hx hb dX6_putIsland_2 rfl (lv_at hl 2 rfl) ?_
  obtain ⟨r1, e3, h⟩ := bd1_e h
  refine zcallVi (As := [.int x1, .int x2]) (rest := []) CF hKK (KX6_gapFor (dC := dC) (dI := dI) (cI := cI) (cZ := cZ) (a := a) hok e3) (cwV 2 hts gX6_putIsland_X6_gapFor rfl rfl rfl cdX6_gapFor ⟨Nat.le_of_ble_eq_true rfl, Nat.le_of_ble_eq_true rfl⟩) 0 6 rfl rfl hz rfl hl.1 rfl (Nat.le_of_ble_eq_true rfl) dX6_putIsland_3 ⟨Nat.le_refl _, Nat.le_refl _⟩ (fun H locs hz => ?_)
  refine lv_istore (lv' := [(5, .int r1), (0, .ref (a 0)), (1, .int x1), (2, .int x2), (3, .int x3), (4, .int x4)]) hx hb dX6_putIsland_6 hl (by decide) rfl (fun ls hl => ?_)
  refine lv_iload hx hb dX6_putIsland_8 (lv_at hl 0 rfl) ?_
  refine lv_iconst (v := (-1 : Int32)) hx hb dX6_putIsland_10 (by decide) ?_
  refine lv_icmp_eq (tgt := 23) hx hb dX6_putIsland_11 (by decide) (fun c4 => ?_) (fun c4 => ?_)
  · replace h := ite_t c4 h
    exact b23  σ x3 x4 _ _ _ h hz (lv_sub hl [1, 4, 5] rfl)
  · replace h := ite_f c4 h
    refine lv_aload_n hx hb dX6_putIsland_14 rfl (lv_at hl 1 rfl) ?_
    refine va_get (v := .int (σ 48 0)) hx hb hts inX6_putIsland_X6 hown hKK.1 hz.1 0 rfl rfl 15 (by decide) (hts _ (List.mem_of_getElem? (i := 1) rfl)) (fun _ h9 => h9) rfl dX6_putIsland_15 ?_
    refine lv_bipush (v := (12 : Int32)) hx hb dX6_putIsland_18 (by decide) ?_
    refine lv_icmp_ne (tgt := 31) hx hb dX6_putIsland_20 (by decide) (fun c9 => ?_) (fun c9 => ?_)
    · replace h := ite_f c9 h
      refine lv_aload_n hx hb dX6_putIsland_31 rfl (lv_at hl 1 rfl) ?_
      refine va_get (v := .ref (a 8)) hx hb hts inX6_putIsland_X6 hown hKK.1 hz.1 0 rfl rfl 16 (by decide) (hts _ (List.mem_of_getElem? (i := 2) rfl)) (fun _ h9 => h9) rfl dX6_putIsland_32 ?_
      refine lv_aload_n hx hb dX6_putIsland_35 rfl (lv_at hl 1 rfl) ?_
      refine va_get (v := .int (σ 48 0)) hx hb hts inX6_putIsland_X6 hown hKK.1 hz.1 0 rfl rfl 15 (by decide) (hts _ (List.mem_of_getElem? (i := 1) rfl)) (fun _ h9 => h9) rfl dX6_putIsland_36 ?_
      refine lv_iload_n hx hb dX6_putIsland_39 rfl (lv_at hl 3 rfl) ?_
      obtain ⟨c10, h⟩ := ck_e h
      refine ziast (f := σ 8) (w' := wdM cI cZ a hh (sa σ 8 (Int32.toNatClampNeg (σ 48 0)) x2)) hx hb hKK hok wkM hz 8 rfl c10 setMa_8 dX6_putIsland_40 (fun H locs hz => ?_)
      refine lv_aload_n hx hb dX6_putIsland_41 rfl (lv_at hl 1 rfl) ?_
      refine va_get (v := .ref (a 9)) hx hb hts inX6_putIsland_X6 hown hKK.1 hz.1 0 rfl rfl 17 (by decide) (hts _ (List.mem_of_getElem? (i := 3) rfl)) (fun _ h9 => h9) rfl dX6_putIsland_42 ?_
      refine lv_aload_n hx hb dX6_putIsland_45 rfl (lv_at hl 1 rfl) ?_
      refine va_get (v := .int (σ 48 0)) hx hb hts inX6_putIsland_X6 hown hKK.1 hz.1 0 rfl rfl 15 (by decide) (hts _ (List.mem_of_getElem? (i := 1) rfl)) (fun _ h9 => h9) rfl dX6_putIsland_46 ?_
      refine lv_iload hx hb dX6_putIsland_49 (lv_at hl 0 rfl) ?_
      obtain ⟨c11, h⟩ := ck_e h
      refine ziast (f := (sa σ 8 (Int32.toNatClampNeg (σ 48 0)) x2) 9) (w' := wdM cI cZ a hh (sa (sa σ 8 (Int32.toNatClampNeg (σ 48 0)) x2) 9 (Int32.toNatClampNeg (σ 48 0)) r1)) hx hb hKK hok wkM hz 9 rfl c11 setMa_9 dX6_putIsland_51 (fun H locs hz => ?_)
      refine lv_aload_n hx hb dX6_putIsland_52 rfl (lv_at hl 1 rfl) ?_
      refine lv_dup hx hb dX6_putIsland_53 rfl ?_
      refine va_get (v := .int (σ 48 0)) hx hb hts inX6_putIsland_X6 hown hKK.1 hz.1 0 rfl rfl 15 (by decide) (hts _ (List.mem_of_getElem? (i := 1) rfl)) (fun _ h9 => h9) rfl dX6_putIsland_54 ?_
      refine lv_iconst (v := (1 : Int32)) hx hb dX6_putIsland_57 (by decide) ?_
      refine lv_iadd hx hb dX6_putIsland_58 ?_
      refine zput (ty := .int) (w' := wdM cI cZ a hh (si (sa (sa σ 8 (Int32.toNatClampNeg (σ 48 0)) x2) 9 (Int32.toNatClampNeg (σ 48 0)) r1) 48 ((σ 48 0) + (1 : Int32)))) hx hb hts inX6_putIsland_X6 tyX6 tyX6_ok nmX6 hown hKK hok wkM hz 0 rfl rfl 15 (by decide) (hts _ (List.mem_of_getElem? (i := 1) rfl)) (fun _ h9 => h9) rfl rfl rfl rfl (Nat.le_of_ble_eq_true rfl) setMi_48 dX6_putIsland_59 (fun H locs hz => ?_)
      refine lv_iconst (v := (1 : Int32)) hx hb dX6_putIsland_62 (by decide) ?_
      exact rt (1 : Int32) (si (sa (sa σ 8 (Int32.toNatClampNeg (σ 48 0)) x2) 9 (Int32.toNatClampNeg (σ 48 0)) r1) 48 ((σ 48 0) + (1 : Int32))) 63 _ _ _ dX6_putIsland_63 h hz (Or.inr rfl)
    · replace h := ite_t c9 h
      exact b23  σ x3 x4 _ _ _ h hz (lv_sub hl [1, 4, 5] rfl)
def fX6_firstStuckIsland_s9 (σ : St) (k9 : Int32 → Int32 → Option (Int32)) (y1 : Int32) (y2 : Int32) : Option (Int32) :=
  (if y2 < 0 then (some y1) else ((ck (¬ (y2 < 0 ∨ 12 ≤ Int32.toNatClampNeg y2)) <| (ck (¬ (y2 < 0 ∨ 12 ≤ Int32.toNatClampNeg y2)) <| (bd1 (fX6_goesFrom σ ((σ 13) (Int32.toNatClampNeg y2)) ((σ 8) (Int32.toNatClampNeg y2))) fun r4 => (if r4 = (-1 : Int32) then (k9 y2 (y2 + (-1 : Int32))) else (k9 y1 (y2 + (-1 : Int32)))))))))
def fX6_firstStuckIsland_l9 (σ : St)  : Nat → Int32 → Int32 → Option (Int32) :=
  itr (fX6_firstStuckIsland_s9 σ ) (fun _ _ => none)
def fX6_firstStuckIsland (σ : St)  : Option (Int32) :=
  fX6_firstStuckIsland_l9 σ  FU (-1 : Int32) ((σ 48 0) - (1 : Int32))
abbrev rmX6_firstStuckIsland : Room := { frames := 3, cells := 0, slots := 0, locals := 70 }
set_option maxHeartbeats 4000000 in
set_option maxRecDepth 100000 in
theorem KX6_firstStuckIsland {l : Launch} {dC : Nat → ClassId} {dI : Nat → Nat → Nat} {cI cZ : ClassId} {a : Nat → Nat} {hh : Int64} {σ : St}  {r : Int32} (hok : okA 18 a) (h : fX6_firstStuckIsland σ  = some r) (sz : Nat) : Met l yX6_firstStuckIsland wsX6_firstStuckIsland rmX6_firstStuckIsland (Pz (dC, dI) cI cZ (wdM cI cZ a hh σ) sz [.ref (a 0)]) (Qzi (dC, dI) 18 a (wdM cI cZ a hh σ) sz r) 0 0 (aN 18 a sz) := by
  refine Met.ofW (cc := cX6_firstStuckIsland) (maxL := 3) (ret := (some .int)) (by decide) rfl ?_
  intro p e s m args below meth c s₁ B hml hv
  obtain ⟨hav, hsz, hP, hKK⟩ := hv
  have hx := B.exec
  have hb := B.bytes
  have hr := B.returns
  have hts := atoms_spec (ws := wsX6_firstStuckIsland) B.pre
  have hown : s.vm.findClass RX6 = some m.cls := findClass_of_methodNamed B.named
  have hlocks := B.notSynchronized
  have CF : CallFix p m c cX6_firstStuckIsland 3 s args wsX6_firstStuckIsland RX6 := ⟨hx, hb, hml, hown, hts⟩
  have hz : zz (dC, dI) 18 a (wdM cI cZ a hh σ) s.heap s.heap [] := ⟨hP, va_S.rf⟩
  have hl := lv_entry [.ref (a 0)] (n := 3) (Nat.le_of_ble_eq_true rfl)
  have hen : entryFrame m args 3 = entryFrame m ([.ref (a 0)] : List Value).toArray 3 := by rw [hav]
  rw [hen, lg_entry_eq]
  generalize (lg_sl [.ref (a 0)] ++ List.replicate (3 - (lg_sl [.ref (a 0)]).length) Slot.unset).toArray = ls at hl ⊢
  have hl : lv_has ls 3 [(0, .ref (a 0))] := hl
  have eR : (headSpec wsX6_firstStuckIsland rmX6_firstStuckIsland).room = rmX6_firstStuckIsland := rfl
  rw [eR]
  have rt : ∀ (v : Int32) (t : St) (pc : Nat) (H : Heap) (locs : List Loc) (ls : Array Slot), decode cX6_firstStuckIsland pc = .ok (.ireturn, 1) → some v = some r → zz (dC, dI) 18 a (wdM cI cZ a hh σ) s.heap H locs → W p l e rmX6_firstStuckIsland s m args below meth c H locs 0 0 (MQ below (Qzi (dC, dI) 18 a (wdM cI cZ a hh σ) sz r) args s 0 0 (aN 18 a sz)) (F0 m pc ls [.int v]) := by
    intro v t pc H locs ls hd h hz
    cases h
    exact ziret hsz hx hb hr hlocks hz hd
  generalize (MQ below (Qzi (dC, dI) 18 a (wdM cI cZ a hh σ) sz r) args s 0 0 (aN 18 a sz)) = Q at rt ⊢
  have s9 : ∀ (k9 : Int32 → Int32 → Option (Int32)) (hk9 : (∀ (y1 : Int32) (y2 : Int32) (H : Heap) (locs : List Loc) (ls : Array Slot), k9 y1 y2 = some r → zz (dC, dI) 18 a (wdM cI cZ a hh σ) s.heap H locs → lv_has ls 3 [(0, .ref (a 0)), (1, .int y1), (2, .int y2)] → W p l e rmX6_firstStuckIsland s m args below meth c H locs 0 0 Q (F0 m 9 ls []))) (y1 : Int32) (y2 : Int32) (H : Heap) (locs : List Loc) (ls : Array Slot), fX6_firstStuckIsland_s9 σ k9 y1 y2 = some r → zz (dC, dI) 18 a (wdM cI cZ a hh σ) s.heap H locs → lv_has ls 3 [(0, .ref (a 0)), (1, .int y1), (2, .int y2)] → W p l e rmX6_firstStuckIsland s m args below meth c H locs 0 0 Q (F0 m 9 ls []) := by
    intro k9 hk9 y1 y2 H locs ls h hz hl
    unfold fX6_firstStuckIsland_s9 at h
    refine lv_iload_n hx hb dX6_firstStuckIsland_9 rfl (lv_at hl 2 rfl) ?_
    refine lv_if_lt (tgt := 45) hx hb dX6_firstStuckIsland_10 (by decide) (fun c1 => ?_) (fun c1 => ?_)
    · replace h := ite_t c1 h
      refine lv_iload_n hx hb dX6_firstStuckIsland_45 rfl (lv_at hl 1 rfl) ?_
      exact rt y1 σ 46 _ _ _ dX6_firstStuckIsland_46 h hz
    · replace h := ite_f c1 h
      refine lv_aload_n hx hb dX6_firstStuckIsland_13 rfl (lv_at hl 0 rfl) ?_
      refine lv_aload_n hx hb dX6_firstStuckIsland_14 rfl (lv_at hl 0 rfl) ?_
      refine va_get (v := .ref (a 13)) hx hb hts inX6_firstStuckIsland_X6 hown hKK.1 hz.1 0 rfl rfl 22 (by decide) (hts _ (List.mem_of_getElem? (i := 2) rfl)) (fun _ h9 => h9) rfl dX6_firstStuckIsland_15 ?_
      refine lv_iload_n hx hb dX6_firstStuckIsland_18 rfl (lv_at hl 2 rfl) ?_
      obtain ⟨c2, h⟩ := ck_e h
      refine va_iald (f := (σ 13)) hx hb hKK.1 hz.1 13 0 rfl rfl c2 dX6_firstStuckIsland_19 ?_
      refine lv_aload_n hx hb dX6_firstStuckIsland_20 rfl (lv_at hl 0 rfl) ?_
      refine va_get (v := .ref (a 8)) hx hb hts inX6_firstStuckIsland_X6 hown hKK.1 hz.1 0 rfl rfl 16 (by decide) (hts _ (List.mem_of_getElem? (i := 3) rfl)) (fun _ h9 => h9) rfl dX6_firstStuckIsland_21 ?_
      refine lv_iload_n hx hb dX6_firstStuckIsland_24 rfl (lv_at hl 2 rfl) ?_
      obtain ⟨c3, h⟩ := ck_e h
      refine va_iald (f := (σ 8)) hx hb hKK.1 hz.1 8 0 rfl rfl c3 dX6_firstStuckIsland_25 ?_
      obtain ⟨r4, e6, h⟩ := bd1_e h
      refine zcallVi (As := [.int ((σ 13) (Int32.toNatClampNeg y2)), .int ((σ 8) (Int32.toNatClampNeg y2))]) (rest := []) CF hKK (KX6_goesFrom (dC := dC) (dI := dI) (cI := cI) (cZ := cZ) (a := a) hok e6) (cwV 2 hts gX6_firstStuckIsland_X6_goesFrom rfl rfl rfl cdX6_goesFrom ⟨Nat.le_of_ble_eq_true rfl, Nat.le_of_ble_eq_true rfl⟩) 0 6 rfl rfl hz rfl hl.1 rfl (Nat.le_of_ble_eq_true rfl) dX6_firstStuckIsland_26 ⟨Nat.le_refl _, Nat.le_refl _⟩ (fun H locs hz => ?_)
      refine lv_iconst (v := (-1 : Int32)) hx hb dX6_firstStuckIsland_29 (by decide) ?_
      refine lv_icmp_ne (tgt := 37) hx hb dX6_firstStuckIsland_30 (by decide) (fun c7 => ?_) (fun c7 => ?_)
      · replace h := ite_f c7 h
        refine lv_iload_n hx hb dX6_firstStuckIsland_37 rfl (lv_at hl 1 rfl) ?_
        refine lv_istore_n (lv' := [(1, .int y1), (0, .ref (a 0)), (2, .int y2)]) hx hb dX6_firstStuckIsland_38 rfl hl (by decide) rfl (fun ls hl => ?_)
        refine lv_iinc (v := (y2 + (-1 : Int32))) (lv' := [(2, .int (y2 + (-1 : Int32))), (1, .int y1), (0, .ref (a 0))]) hx hb dX6_firstStuckIsland_39 hl (k := 2) rfl rfl (by decide) rfl (fun ls hl => ?_)
        refine lv_goto (tgt := 9) hx hb dX6_firstStuckIsland_42 (by decide) ?_
        exact hk9 y1 (y2 + (-1 : Int32)) _ _ _ h hz (lv_sub hl [2, 1, 0] rfl)
      · replace h := ite_t c7 h
        refine lv_iload_n hx hb dX6_firstStuckIsland_33 rfl (lv_at hl 2 rfl) ?_
        refine lv_goto (tgt := 38) hx hb dX6_firstStuckIsland_34 (by decide) ?_
        refine lv_istore_n (lv' := [(1, .int y2), (0, .ref (a 0)), (2, .int y2)]) hx hb dX6_firstStuckIsland_38 rfl hl (by decide) rfl (fun ls hl => ?_)
        refine lv_iinc (v := (y2 + (-1 : Int32))) (lv' := [(2, .int (y2 + (-1 : Int32))), (1, .int y2), (0, .ref (a 0))]) hx hb dX6_firstStuckIsland_39 hl (k := 2) rfl rfl (by decide) rfl (fun ls hl => ?_)
        refine lv_goto (tgt := 9) hx hb dX6_firstStuckIsland_42 (by decide) ?_
        exact hk9 y2 (y2 + (-1 : Int32)) _ _ _ h hz (lv_sub hl [2, 1, 0] rfl)
  have l9 : ∀  (n : Nat), ∀ (y1 : Int32) (y2 : Int32) (H : Heap) (locs : List Loc) (ls : Array Slot), fX6_firstStuckIsland_l9 σ  n y1 y2 = some r → zz (dC, dI) 18 a (wdM cI cZ a hh σ) s.heap H locs → lv_has ls 3 [(0, .ref (a 0)), (1, .int y1), (2, .int y2)] → W p l e rmX6_firstStuckIsland s m args below meth c H locs 0 0 Q (F0 m 9 ls []) := by
    intro  n
    induction n with
    | zero => intro y1 y2 H locs ls h; exact nomatch h
    | succ n ih => exact s9  (fX6_firstStuckIsland_l9 σ  n) ih
  unfold fX6_firstStuckIsland at h
  refine lv_iconst (v := (-1 : Int32)) hx hb dX6_firstStuckIsland_0 (by decide) ?_
  refine lv_istore_n (lv' := [(1, .int (-1 : Int32)), (0, .ref (a 0))]) hx hb dX6_firstStuckIsland_1 rfl hl (by decide) rfl (fun ls hl => ?_)
  refine lv_aload_n hx hb dX6_firstStuckIsland_2 rfl (lv_at hl 1 rfl) ?_
  refine va_get (v := .int (σ 48 0)) hx hb hts inX6_firstStuckIsland_X6 hown hKK.1 hz.1 0 rfl rfl 15 (by decide) (hts _ (List.mem_of_getElem? (i := 1) rfl)) (fun _ h9 => h9) rfl dX6_firstStuckIsland_3 ?_
  refine lv_iconst (v := (1 : Int32)) hx hb dX6_firstStuckIsland_6 (by decide) ?_
  refine lv_isub hx hb dX6_firstStuckIsland_7 ?_
  refine lv_istore_n (lv' := [(2, .int ((σ 48 0) - (1 : Int32))), (1, .int (-1 : Int32)), (0, .ref (a 0))]) hx hb dX6_firstStuckIsland_8 rfl hl (by decide) rfl (fun ls hl => ?_)
  exact l9  FU (-1 : Int32) ((σ 48 0) - (1 : Int32)) _ _ _ h hz (lv_sub hl [2, 1, 0] rfl)
def fX6_mends (σ : St)  : Option (Int32 × St) :=
  (bd1 (fX6_firstStuck σ (2 : Int32) (0 : Int32)) fun r1 => (if r1 = (-1 : Int32) then ((bd1 (fX6_firstStuck σ (1 : Int32) (0 : Int32)) fun r5 => (if r5 = (-1 : Int32) then ((bd1 (fX6_firstStuck σ (2 : Int32) (1 : Int32)) fun r9 => (if r9 = (-1 : Int32) then ((bd1 (fX6_firstStuckIsland σ ) fun r13 => (if r13 = (-1 : Int32) then (some ((0 : Int32), σ)) else ((ck (¬ (r13 < 0 ∨ 12 ≤ Int32.toNatClampNeg r13)) <| (ck (¬ (r13 < 0 ∨ 12 ≤ Int32.toNatClampNeg r13)) <| (bd2 (fX6_putIsland σ ((σ 13) (Int32.toNatClampNeg r13)) ((σ 8) (Int32.toNatClampNeg r13)) (3 : Int32) r13) fun r19 s20 => (if r19 = 0 then (some ((0 : Int32), s20)) else (some ((1 : Int32), s20)))))))))) else ((ck (¬ (r9 < 0 ∨ 24 ≤ Int32.toNatClampNeg r9)) <| (ck (¬ (r9 < 0 ∨ 24 ≤ Int32.toNatClampNeg r9)) <| (bd2 (fX6_putIsland σ ((σ 12) (Int32.toNatClampNeg r9)) ((σ 3) (Int32.toNatClampNeg r9)) (2 : Int32) r9) fun r25 s26 => (ck (r25 = 0 ∨ r25 = 1) <| some (r25, s26))))))))) else ((bd2 (fX6_putConstant σ r5) fun r29 s30 => (ck (r29 = 0 ∨ r29 = 1) <| some (r29, s30))))))) else ((ck (¬ (r1 < 0 ∨ 24 ≤ Int32.toNatClampNeg r1)) <| some ((1 : Int32), (sa σ 7 (Int32.toNatClampNeg r1) (1 : Int32)))))))
abbrev rmX6_mends : Room := { frames := 5, cells := 0, slots := 0, locals := 117 }
set_option maxHeartbeats 4000000 in
set_option maxRecDepth 100000 in
theorem KX6_mends {l : Launch} {dC : Nat → ClassId} {dI : Nat → Nat → Nat} {cI cZ : ClassId} {a : Nat → Nat} {hh : Int64} {σ : St}  {r : Int32} {σ2 : St} (hok : okA 18 a) (h : fX6_mends σ  = some (r, σ2)) (sz : Nat) : Met l yX6_mends wsX6_mends rmX6_mends (Pz (dC, dI) cI cZ (wdM cI cZ a hh σ) sz [.ref (a 0)]) (Qzi (dC, dI) 18 a (wdM cI cZ a hh σ2) sz r) 0 0 (aN 18 a sz) := by
  refine Met.ofW (cc := cX6_mends) (maxL := 2) (ret := (some .boolean)) (by decide) rfl ?_
  intro p e s m args below meth c s₁ B hml hv
  obtain ⟨hav, hsz, hP, hKK⟩ := hv
  have hx := B.exec
  have hb := B.bytes
  have hr := B.returns
  have hts := atoms_spec (ws := wsX6_mends) B.pre
  have hown : s.vm.findClass RX6 = some m.cls := findClass_of_methodNamed B.named
  have hlocks := B.notSynchronized
  have CF : CallFix p m c cX6_mends 2 s args wsX6_mends RX6 := ⟨hx, hb, hml, hown, hts⟩
  have hz : zz (dC, dI) 18 a (wdM cI cZ a hh σ) s.heap s.heap [] := ⟨hP, va_S.rf⟩
  have hl := lv_entry [.ref (a 0)] (n := 2) (Nat.le_of_ble_eq_true rfl)
  have hen : entryFrame m args 2 = entryFrame m ([.ref (a 0)] : List Value).toArray 2 := by rw [hav]
  rw [hen, lg_entry_eq]
  generalize (lg_sl [.ref (a 0)] ++ List.replicate (2 - (lg_sl [.ref (a 0)]).length) Slot.unset).toArray = ls at hl ⊢
  have hl : lv_has ls 2 [(0, .ref (a 0))] := hl
  have eR : (headSpec wsX6_mends rmX6_mends).room = rmX6_mends := rfl
  rw [eR]
  have rt : ∀ (v : Int32) (t : St) (pc : Nat) (H : Heap) (locs : List Loc) (ls : Array Slot), decode cX6_mends pc = .ok (.ireturn, 1) → some (v, t) = some (r, σ2) → zz (dC, dI) 18 a (wdM cI cZ a hh t) s.heap H locs → (v = 0 ∨ v = 1) → W p l e rmX6_mends s m args below meth c H locs 0 0 (MQ below (Qzi (dC, dI) 18 a (wdM cI cZ a hh σ2) sz r) args s 0 0 (aN 18 a sz)) (F0 m pc ls [.int v]) := by
    intro v t pc H locs ls hd h hz hv
    cases h
    exact zzret hsz hx hb hr hlocks hv hz hd
  generalize (MQ below (Qzi (dC, dI) 18 a (wdM cI cZ a hh σ2) sz r) args s 0 0 (aN 18 a sz)) = Q at rt ⊢
  unfold fX6_mends at h
  refine lv_aload_n hx hb dX6_mends_0 rfl (lv_at hl 0 rfl) ?_
  refine lv_iconst (v := (2 : Int32)) hx hb dX6_mends_1 (by decide) ?_
  refine lv_iconst (v := (0 : Int32)) hx hb dX6_mends_2 (by decide) ?_
  obtain ⟨r1, e3, h⟩ := bd1_e h
  refine zcallVi (As := [.int (2 : Int32), .int (0 : Int32)]) (rest := []) CF hKK (KX6_firstStuck (dC := dC) (dI := dI) (cI := cI) (cZ := cZ) (a := a) hok e3) (cwV 2 hts gX6_mends_X6_firstStuck rfl rfl rfl cdX6_firstStuck ⟨Nat.le_of_ble_eq_true rfl, Nat.le_of_ble_eq_true rfl⟩) 0 6 rfl rfl hz rfl hl.1 rfl (Nat.le_of_ble_eq_true rfl) dX6_mends_3 ⟨Nat.le_refl _, Nat.le_refl _⟩ (fun H locs hz => ?_)
  refine lv_istore_n (lv' := [(1, .int r1), (0, .ref (a 0))]) hx hb dX6_mends_6 rfl hl (by decide) rfl (fun ls hl => ?_)
  refine lv_iload_n hx hb dX6_mends_7 rfl (lv_at hl 0 rfl) ?_
  refine lv_iconst (v := (-1 : Int32)) hx hb dX6_mends_8 (by decide) ?_
  refine lv_icmp_eq (tgt := 21) hx hb dX6_mends_9 (by decide) (fun c4 => ?_) (fun c4 => ?_)
  · replace h := ite_t c4 h
    refine lv_aload_n hx hb dX6_mends_21 rfl (lv_at hl 1 rfl) ?_
    refine lv_iconst (v := (1 : Int32)) hx hb dX6_mends_22 (by decide) ?_
    refine lv_iconst (v := (0 : Int32)) hx hb dX6_mends_23 (by decide) ?_
    obtain ⟨r5, e7, h⟩ := bd1_e h
    refine zcallVi (As := [.int (1 : Int32), .int (0 : Int32)]) (rest := []) CF hKK (KX6_firstStuck (dC := dC) (dI := dI) (cI := cI) (cZ := cZ) (a := a) hok e7) (cwV 2 hts gX6_mends_X6_firstStuck rfl rfl rfl cdX6_firstStuck ⟨Nat.le_of_ble_eq_true rfl, Nat.le_of_ble_eq_true rfl⟩) 0 6 rfl rfl hz rfl hl.1 rfl (Nat.le_of_ble_eq_true rfl) dX6_mends_24 ⟨Nat.le_refl _, Nat.le_refl _⟩ (fun H locs hz => ?_)
    refine lv_istore_n (lv' := [(1, .int r5), (0, .ref (a 0))]) hx hb dX6_mends_27 rfl hl (by decide) rfl (fun ls hl => ?_)
    refine lv_iload_n hx hb dX6_mends_28 rfl (lv_at hl 0 rfl) ?_
    refine lv_iconst (v := (-1 : Int32)) hx hb dX6_mends_29 (by decide) ?_
    refine lv_icmp_eq (tgt := 39) hx hb dX6_mends_30 (by decide) (fun c8 => ?_) (fun c8 => ?_)
    · replace h := ite_t c8 h
      refine lv_aload_n hx hb dX6_mends_39 rfl (lv_at hl 1 rfl) ?_
      refine lv_iconst (v := (2 : Int32)) hx hb dX6_mends_40 (by decide) ?_
      refine lv_iconst (v := (1 : Int32)) hx hb dX6_mends_41 (by decide) ?_
      obtain ⟨r9, e11, h⟩ := bd1_e h
      refine zcallVi (As := [.int (2 : Int32), .int (1 : Int32)]) (rest := []) CF hKK (KX6_firstStuck (dC := dC) (dI := dI) (cI := cI) (cZ := cZ) (a := a) hok e11) (cwV 2 hts gX6_mends_X6_firstStuck rfl rfl rfl cdX6_firstStuck ⟨Nat.le_of_ble_eq_true rfl, Nat.le_of_ble_eq_true rfl⟩) 0 6 rfl rfl hz rfl hl.1 rfl (Nat.le_of_ble_eq_true rfl) dX6_mends_42 ⟨Nat.le_refl _, Nat.le_refl _⟩ (fun H locs hz => ?_)
      refine lv_istore_n (lv' := [(1, .int r9), (0, .ref (a 0))]) hx hb dX6_mends_45 rfl hl (by decide) rfl (fun ls hl => ?_)
      refine lv_iload_n hx hb dX6_mends_46 rfl (lv_at hl 0 rfl) ?_
      refine lv_iconst (v := (-1 : Int32)) hx hb dX6_mends_47 (by decide) ?_
      refine lv_icmp_eq (tgt := 70) hx hb dX6_mends_48 (by decide) (fun c12 => ?_) (fun c12 => ?_)
      · replace h := ite_t c12 h
        refine lv_aload_n hx hb dX6_mends_70 rfl (lv_at hl 1 rfl) ?_
        obtain ⟨r13, e15, h⟩ := bd1_e h
        refine zcallVi (As := []) (rest := []) CF hKK (KX6_firstStuckIsland (dC := dC) (dI := dI) (cI := cI) (cZ := cZ) (a := a) hok e15) (cwV 0 hts gX6_mends_X6_firstStuckIsland rfl rfl rfl cdX6_firstStuckIsland ⟨Nat.le_of_ble_eq_true rfl, Nat.le_of_ble_eq_true rfl⟩) 0 6 rfl rfl hz rfl hl.1 rfl (Nat.le_of_ble_eq_true rfl) dX6_mends_71 ⟨Nat.le_refl _, Nat.le_refl _⟩ (fun H locs hz => ?_)
        refine lv_istore_n (lv' := [(1, .int r13), (0, .ref (a 0))]) hx hb dX6_mends_74 rfl hl (by decide) rfl (fun ls hl => ?_)
        refine lv_iload_n hx hb dX6_mends_75 rfl (lv_at hl 0 rfl) ?_
        refine lv_iconst (v := (-1 : Int32)) hx hb dX6_mends_76 (by decide) ?_
        refine lv_icmp_eq (tgt := 105) hx hb dX6_mends_77 (by decide) (fun c16 => ?_) (fun c16 => ?_)
        · replace h := ite_t c16 h
          refine lv_iconst (v := (0 : Int32)) hx hb dX6_mends_105 (by decide) ?_
          exact rt (0 : Int32) σ 106 _ _ _ dX6_mends_106 h hz (Or.inl rfl)
        · replace h := ite_f c16 h
          refine lv_aload_n hx hb dX6_mends_80 rfl (lv_at hl 1 rfl) ?_
          refine lv_aload_n hx hb dX6_mends_81 rfl (lv_at hl 1 rfl) ?_
          refine va_get (v := .ref (a 13)) hx hb hts inX6_mends_X6 hown hKK.1 hz.1 0 rfl rfl 22 (by decide) (hts _ (List.mem_of_getElem? (i := 4) rfl)) (fun _ h9 => h9) rfl dX6_mends_82 ?_
          refine lv_iload_n hx hb dX6_mends_85 rfl (lv_at hl 0 rfl) ?_
          obtain ⟨c17, h⟩ := ck_e h
          refine va_iald (f := (σ 13)) hx hb hKK.1 hz.1 13 0 rfl rfl c17 dX6_mends_86 ?_
          refine lv_aload_n hx hb dX6_mends_87 rfl (lv_at hl 1 rfl) ?_
          refine va_get (v := .ref (a 8)) hx hb hts inX6_mends_X6 hown hKK.1 hz.1 0 rfl rfl 16 (by decide) (hts _ (List.mem_of_getElem? (i := 5) rfl)) (fun _ h9 => h9) rfl dX6_mends_88 ?_
          refine lv_iload_n hx hb dX6_mends_91 rfl (lv_at hl 0 rfl) ?_
          obtain ⟨c18, h⟩ := ck_e h
          refine va_iald (f := (σ 8)) hx hb hKK.1 hz.1 8 0 rfl rfl c18 dX6_mends_92 ?_
          refine lv_iconst (v := (3 : Int32)) hx hb dX6_mends_93 (by decide) ?_
          refine lv_iload_n hx hb dX6_mends_94 rfl (lv_at hl 0 rfl) ?_
          obtain ⟨r19, s20, e21, h⟩ := bd2_e h
          refine zcallVi (As := [.int ((σ 13) (Int32.toNatClampNeg r13)), .int ((σ 8) (Int32.toNatClampNeg r13)), .int (3 : Int32), .int r13]) (rest := []) CF hKK (KX6_putIsland (dC := dC) (dI := dI) (cI := cI) (cZ := cZ) (a := a) hok e21) (cwV 4 hts gX6_mends_X6_putIsland rfl rfl rfl cdX6_putIsland ⟨Nat.le_of_ble_eq_true rfl, Nat.le_of_ble_eq_true rfl⟩) 0 6 rfl rfl hz rfl hl.1 rfl (Nat.le_of_ble_eq_true rfl) dX6_mends_95 ⟨Nat.le_refl _, Nat.le_refl _⟩ (fun H locs hz => ?_)
          refine lv_if_eq (tgt := 105) hx hb dX6_mends_98 (by decide) (fun c22 => ?_) (fun c22 => ?_)
          · replace h := ite_t c22 h
            refine lv_iconst (v := (0 : Int32)) hx hb dX6_mends_105 (by decide) ?_
            exact rt (0 : Int32) s20 106 _ _ _ dX6_mends_106 h hz (Or.inl rfl)
          · replace h := ite_f c22 h
            refine lv_iconst (v := (1 : Int32)) hx hb dX6_mends_101 (by decide) ?_
            refine lv_goto (tgt := 106) hx hb dX6_mends_102 (by decide) ?_
            exact rt (1 : Int32) s20 106 _ _ _ dX6_mends_106 h hz (Or.inr rfl)
      · replace h := ite_f c12 h
        refine lv_aload_n hx hb dX6_mends_51 rfl (lv_at hl 1 rfl) ?_
        refine lv_aload_n hx hb dX6_mends_52 rfl (lv_at hl 1 rfl) ?_
        refine va_get (v := .ref (a 12)) hx hb hts inX6_mends_X6 hown hKK.1 hz.1 0 rfl rfl 21 (by decide) (hts _ (List.mem_of_getElem? (i := 2) rfl)) (fun _ h9 => h9) rfl dX6_mends_53 ?_
        refine lv_iload_n hx hb dX6_mends_56 rfl (lv_at hl 0 rfl) ?_
        obtain ⟨c23, h⟩ := ck_e h
        refine va_iald (f := (σ 12)) hx hb hKK.1 hz.1 12 0 rfl rfl c23 dX6_mends_57 ?_
        refine lv_aload_n hx hb dX6_mends_58 rfl (lv_at hl 1 rfl) ?_
        refine va_get (v := .ref (a 3)) hx hb hts inX6_mends_X6 hown hKK.1 hz.1 0 rfl rfl 4 (by decide) (hts _ (List.mem_of_getElem? (i := 3) rfl)) (fun _ h9 => h9) rfl dX6_mends_59 ?_
        refine lv_iload_n hx hb dX6_mends_62 rfl (lv_at hl 0 rfl) ?_
        obtain ⟨c24, h⟩ := ck_e h
        refine va_iald (f := (σ 3)) hx hb hKK.1 hz.1 3 0 rfl rfl c24 dX6_mends_63 ?_
        refine lv_iconst (v := (2 : Int32)) hx hb dX6_mends_64 (by decide) ?_
        refine lv_iload_n hx hb dX6_mends_65 rfl (lv_at hl 0 rfl) ?_
        obtain ⟨r25, s26, e27, h⟩ := bd2_e h
        refine zcallVi (As := [.int ((σ 12) (Int32.toNatClampNeg r9)), .int ((σ 3) (Int32.toNatClampNeg r9)), .int (2 : Int32), .int r9]) (rest := []) CF hKK (KX6_putIsland (dC := dC) (dI := dI) (cI := cI) (cZ := cZ) (a := a) hok e27) (cwV 4 hts gX6_mends_X6_putIsland rfl rfl rfl cdX6_putIsland ⟨Nat.le_of_ble_eq_true rfl, Nat.le_of_ble_eq_true rfl⟩) 0 6 rfl rfl hz rfl hl.1 rfl (Nat.le_of_ble_eq_true rfl) dX6_mends_66 ⟨Nat.le_refl _, Nat.le_refl _⟩ (fun H locs hz => ?_)
        obtain ⟨c28, h⟩ := ck_e h
        exact rt r25 s26 69 _ _ _ dX6_mends_69 h hz c28
    · replace h := ite_f c8 h
      refine lv_aload_n hx hb dX6_mends_33 rfl (lv_at hl 1 rfl) ?_
      refine lv_iload_n hx hb dX6_mends_34 rfl (lv_at hl 0 rfl) ?_
      obtain ⟨r29, s30, e31, h⟩ := bd2_e h
      refine zcallVi (As := [.int r5]) (rest := []) CF hKK (KX6_putConstant (dC := dC) (dI := dI) (cI := cI) (cZ := cZ) (a := a) hok e31) (cwV 1 hts gX6_mends_X6_putConstant rfl rfl rfl cdX6_putConstant ⟨Nat.le_of_ble_eq_true rfl, Nat.le_of_ble_eq_true rfl⟩) 0 6 rfl rfl hz rfl hl.1 rfl (Nat.le_of_ble_eq_true rfl) dX6_mends_35 ⟨Nat.le_refl _, Nat.le_refl _⟩ (fun H locs hz => ?_)
      obtain ⟨c32, h⟩ := ck_e h
      exact rt r29 s30 38 _ _ _ dX6_mends_38 h hz c32
  · replace h := ite_f c4 h
    refine lv_aload_n hx hb dX6_mends_12 rfl (lv_at hl 1 rfl) ?_
    refine va_get (v := .ref (a 7)) hx hb hts inX6_mends_X6 hown hKK.1 hz.1 0 rfl rfl 14 (by decide) (hts _ (List.mem_of_getElem? (i := 1) rfl)) (fun _ h9 => h9) rfl dX6_mends_13 ?_
    refine lv_iload_n hx hb dX6_mends_16 rfl (lv_at hl 0 rfl) ?_
    refine lv_iconst (v := (1 : Int32)) hx hb dX6_mends_17 (by decide) ?_
    obtain ⟨c33, h⟩ := ck_e h
    refine zzast (f := σ 7) (w' := wdM cI cZ a hh (sa σ 7 (Int32.toNatClampNeg r1) (1 : Int32))) hx hb hKK hok wkM hz 7 rfl c33 (x' := (1 : Int32)) (by decide) setMa_7 dX6_mends_18 (fun H locs hz => ?_)
    refine lv_iconst (v := (1 : Int32)) hx hb dX6_mends_19 (by decide) ?_
    exact rt (1 : Int32) (sa σ 7 (Int32.toNatClampNeg r1) (1 : Int32)) 20 _ _ _ dX6_mends_20 h hz (Or.inr rfl)
def fX6_placeAll_s66 (k66 : St → Int32 → Option (St)) (σ : St) (y1 : Int32) : Option (St) :=
  (if y1 = 0 then (some σ) else ((bd1 (fX6_layAll (si σ 52 ((σ 52 0) + (1 : Int32))) ) fun s5 => (bd2 (fX6_mends s5 ) fun r7 s8 => k66 s8 r7))))
def fX6_placeAll_l66  : Nat → St → Int32 → Option (St) :=
  itr (fX6_placeAll_s66 ) (fun _ _ => none)
def fX6_placeAll_s32 (k32 : St → Int32 → Option (St)) (σ : St) (y1 : Int32) : Option (St) :=
  (if (σ 41 0) ≤ y1 then ((if (σ 41 0) ≤ 0 then (fX6_placeAll_l66  FU σ (0 : Int32)) else (fX6_placeAll_l66  FU σ (1 : Int32)))) else ((ck (¬ (y1 < 0 ∨ 24 ≤ Int32.toNatClampNeg y1)) <| k32 (sa σ 7 (Int32.toNatClampNeg y1) (0 : Int32)) (y1 + (1 : Int32)))))
def fX6_placeAll_l32  : Nat → St → Int32 → Option (St) :=
  itr (fX6_placeAll_s32 ) (fun _ _ => none)
def fX6_placeAll (σ : St)  : Option (St) :=
  fX6_placeAll_l32  FU (si (si (si (si (si (si σ 48 (0 : Int32)) 49 (0 : Int32)) 52 (0 : Int32)) 53 (1 : Int32)) 54 (0 : Int32)) 55 (-1 : Int32)) (0 : Int32)
abbrev rmX6_placeAll : Room := { frames := 6, cells := 0, slots := 0, locals := 138 }
set_option maxHeartbeats 4000000 in
set_option maxRecDepth 100000 in
theorem KX6_placeAll {l : Launch} {dC : Nat → ClassId} {dI : Nat → Nat → Nat} {cI cZ : ClassId} {a : Nat → Nat} {hh : Int64} {σ : St}  {σ2 : St} (hok : okA 18 a) (h : fX6_placeAll σ  = some σ2) (sz : Nat) : Met l yX6_placeAll wsX6_placeAll rmX6_placeAll (Pz (dC, dI) cI cZ (wdM cI cZ a hh σ) sz [.ref (a 0)]) (Qzv (dC, dI) 18 a (wdM cI cZ a hh σ2) sz) 0 0 (aN 18 a sz) := by
  refine Met.ofW (cc := cX6_placeAll) (maxL := 2) (ret := none) (by decide) rfl ?_
  intro p e s m args below meth c s₁ B hml hv
  obtain ⟨hav, hsz, hP, hKK⟩ := hv
  have hx := B.exec
  have hb := B.bytes
  have hr := B.returns
  have hts := atoms_spec (ws := wsX6_placeAll) B.pre
  have hown : s.vm.findClass RX6 = some m.cls := findClass_of_methodNamed B.named
  have hlocks := B.notSynchronized
  have CF : CallFix p m c cX6_placeAll 2 s args wsX6_placeAll RX6 := ⟨hx, hb, hml, hown, hts⟩
  have hz : zz (dC, dI) 18 a (wdM cI cZ a hh σ) s.heap s.heap [] := ⟨hP, va_S.rf⟩
  have hl := lv_entry [.ref (a 0)] (n := 2) (Nat.le_of_ble_eq_true rfl)
  have hen : entryFrame m args 2 = entryFrame m ([.ref (a 0)] : List Value).toArray 2 := by rw [hav]
  rw [hen, lg_entry_eq]
  generalize (lg_sl [.ref (a 0)] ++ List.replicate (2 - (lg_sl [.ref (a 0)]).length) Slot.unset).toArray = ls at hl ⊢
  have hl : lv_has ls 2 [(0, .ref (a 0))] := hl
  have eR : (headSpec wsX6_placeAll rmX6_placeAll).room = rmX6_placeAll := rfl
  rw [eR]
  have rt : ∀ (t : St) (pc : Nat) (H : Heap) (locs : List Loc) (ls : Array Slot), decode cX6_placeAll pc = .ok (.return_, 1) → some t = some σ2 → zz (dC, dI) 18 a (wdM cI cZ a hh t) s.heap H locs → W p l e rmX6_placeAll s m args below meth c H locs 0 0 (MQ below (Qzv (dC, dI) 18 a (wdM cI cZ a hh σ2) sz) args s 0 0 (aN 18 a sz)) (F0 m pc ls []) := by
    intro t pc H locs ls hd h hz
    cases h
    exact zvret hsz hx hb hr hlocks hz hd
  generalize (MQ below (Qzv (dC, dI) 18 a (wdM cI cZ a hh σ2) sz) args s 0 0 (aN 18 a sz)) = Q at rt ⊢
  have s66 : ∀ (k66 : St → Int32 → Option (St)) (hk66 : (∀ (σ : St) (y1 : Int32) (H : Heap) (locs : List Loc) (ls : Array Slot), k66 σ y1 = some σ2 → zz (dC, dI) 18 a (wdM cI cZ a hh σ) s.heap H locs → lv_has ls 2 [(0, .ref (a 0)), (1, .int y1)] → W p l e rmX6_placeAll s m args below meth c H locs 0 0 Q (F0 m 66 ls []))) (σ : St) (y1 : Int32) (H : Heap) (locs : List Loc) (ls : Array Slot), fX6_placeAll_s66 k66 σ y1 = some σ2 → zz (dC, dI) 18 a (wdM cI cZ a hh σ) s.heap H locs → lv_has ls 2 [(0, .ref (a 0)), (1, .int y1)] → W p l e rmX6_placeAll s m args below meth c H locs 0 0 Q (F0 m 66 ls []) := by
    intro k66 hk66 σ y1 H locs ls h hz hl
    unfold fX6_placeAll_s66 at h
    refine lv_iload_n hx hb dX6_placeAll_66 rfl (lv_at hl 1 rfl) ?_
    refine lv_if_eq (tgt := 92) hx hb dX6_placeAll_67 (by decide) (fun c3 => ?_) (fun c3 => ?_)
    · replace h := ite_t c3 h
      exact rt σ 92 _ _ _ dX6_placeAll_92 h hz
    · replace h := ite_f c3 h
      refine lv_aload_n hx hb dX6_placeAll_70 rfl (lv_at hl 0 rfl) ?_
      refine lv_dup hx hb dX6_placeAll_71 rfl ?_
      refine va_get (v := .int (σ 52 0)) hx hb hts inX6_placeAll_X6 hown hKK.1 hz.1 0 rfl rfl 29 (by decide) (hts _ (List.mem_of_getElem? (i := 3) rfl)) (fun _ h9 => h9) rfl dX6_placeAll_72 ?_
      refine lv_iconst (v := (1 : Int32)) hx hb dX6_placeAll_75 (by decide) ?_
      refine lv_iadd hx hb dX6_placeAll_76 ?_
      refine zput (ty := .int) (w' := wdM cI cZ a hh (si σ 52 ((σ 52 0) + (1 : Int32)))) hx hb hts inX6_placeAll_X6 tyX6 tyX6_ok nmX6 hown hKK hok wkM hz 0 rfl rfl 29 (by decide) (hts _ (List.mem_of_getElem? (i := 3) rfl)) (fun _ h9 => h9) rfl rfl rfl rfl (Nat.le_of_ble_eq_true rfl) setMi_52 dX6_placeAll_77 (fun H locs hz => ?_)
      refine lv_aload_n hx hb dX6_placeAll_80 rfl (lv_at hl 0 rfl) ?_
      obtain ⟨s5, e6, h⟩ := bd1_e h
      refine zcallVv (As := []) (rest := []) CF hKK (KX6_layAll (dC := dC) (dI := dI) (cI := cI) (cZ := cZ) (a := a) hok e6) (cwV 0 hts gX6_placeAll_X6_layAll rfl rfl rfl cdX6_layAll ⟨Nat.le_of_ble_eq_true rfl, Nat.le_of_ble_eq_true rfl⟩) 0 6 rfl rfl hz rfl hl.1 rfl (Nat.le_of_ble_eq_true rfl) dX6_placeAll_81 ⟨Nat.le_refl _, Nat.le_refl _⟩ (fun H locs hz => ?_)
      refine lv_aload_n hx hb dX6_placeAll_84 rfl (lv_at hl 0 rfl) ?_
      obtain ⟨r7, s8, e9, h⟩ := bd2_e h
      refine zcallVi (As := []) (rest := []) CF hKK (KX6_mends (dC := dC) (dI := dI) (cI := cI) (cZ := cZ) (a := a) hok e9) (cwV 0 hts gX6_placeAll_X6_mends rfl rfl rfl cdX6_mends ⟨Nat.le_of_ble_eq_true rfl, Nat.le_of_ble_eq_true rfl⟩) 0 6 rfl rfl hz rfl hl.1 rfl (Nat.le_of_ble_eq_true rfl) dX6_placeAll_85 ⟨Nat.le_refl _, Nat.le_refl _⟩ (fun H locs hz => ?_)
      refine lv_istore_n (lv' := [(1, .int r7), (0, .ref (a 0))]) hx hb dX6_placeAll_88 rfl hl (by decide) rfl (fun ls hl => ?_)
      refine lv_goto (tgt := 66) hx hb dX6_placeAll_89 (by decide) ?_
      exact hk66 s8 r7 _ _ _ h hz (lv_sub hl [1, 0] rfl)
  have l66 : ∀  (n : Nat), ∀ (σ : St) (y1 : Int32) (H : Heap) (locs : List Loc) (ls : Array Slot), fX6_placeAll_l66  n σ y1 = some σ2 → zz (dC, dI) 18 a (wdM cI cZ a hh σ) s.heap H locs → lv_has ls 2 [(0, .ref (a 0)), (1, .int y1)] → W p l e rmX6_placeAll s m args below meth c H locs 0 0 Q (F0 m 66 ls []) := by
    intro  n
    induction n with
    | zero => intro σ y1 H locs ls h; exact nomatch h
    | succ n ih => exact s66  (fX6_placeAll_l66  n) ih
  have s32 : ∀ (k32 : St → Int32 → Option (St)) (hk32 : (∀ (σ : St) (y1 : Int32) (H : Heap) (locs : List Loc) (ls : Array Slot), k32 σ y1 = some σ2 → zz (dC, dI) 18 a (wdM cI cZ a hh σ) s.heap H locs → lv_has ls 2 [(0, .ref (a 0)), (1, .int y1)] → W p l e rmX6_placeAll s m args below meth c H locs 0 0 Q (F0 m 32 ls []))) (σ : St) (y1 : Int32) (H : Heap) (locs : List Loc) (ls : Array Slot), fX6_placeAll_s32 k32 σ y1 = some σ2 → zz (dC, dI) 18 a (wdM cI cZ a hh σ) s.heap H locs → lv_has ls 2 [(0, .ref (a 0)), (1, .int y1)] → W p l e rmX6_placeAll s m args below meth c H locs 0 0 Q (F0 m 32 ls []) := by
    intro k32 hk32 σ y1 H locs ls h hz hl
    unfold fX6_placeAll_s32 at h
    refine lv_iload_n hx hb dX6_placeAll_32 rfl (lv_at hl 1 rfl) ?_
    refine lv_aload_n hx hb dX6_placeAll_33 rfl (lv_at hl 0 rfl) ?_
    refine va_get (v := .int (σ 41 0)) hx hb hts inX6_placeAll_X6 hown hKK.1 hz.1 0 rfl rfl 2 (by decide) (hts _ (List.mem_of_getElem? (i := 7) rfl)) (fun _ h9 => h9) rfl dX6_placeAll_34 ?_
    refine lv_icmp_ge (tgt := 53) hx hb dX6_placeAll_37 (by decide) (fun c1 => ?_) (fun c1 => ?_)
    · replace h := ite_t c1 h
      refine lv_aload_n hx hb dX6_placeAll_53 rfl (lv_at hl 0 rfl) ?_
      refine va_get (v := .int (σ 41 0)) hx hb hts inX6_placeAll_X6 hown hKK.1 hz.1 0 rfl rfl 2 (by decide) (hts _ (List.mem_of_getElem? (i := 7) rfl)) (fun _ h9 => h9) rfl dX6_placeAll_54 ?_
      refine lv_if_le (tgt := 64) hx hb dX6_placeAll_57 (by decide) (fun c2 => ?_) (fun c2 => ?_)
      · replace h := ite_t c2 h
        refine lv_iconst (v := (0 : Int32)) hx hb dX6_placeAll_64 (by decide) ?_
        refine lv_istore_n (lv' := [(1, .int (0 : Int32)), (0, .ref (a 0))]) hx hb dX6_placeAll_65 rfl hl (by decide) rfl (fun ls hl => ?_)
        exact l66  FU σ (0 : Int32) _ _ _ h hz (lv_sub hl [1, 0] rfl)
      · replace h := ite_f c2 h
        refine lv_iconst (v := (1 : Int32)) hx hb dX6_placeAll_60 (by decide) ?_
        refine lv_goto (tgt := 65) hx hb dX6_placeAll_61 (by decide) ?_
        refine lv_istore_n (lv' := [(1, .int (1 : Int32)), (0, .ref (a 0))]) hx hb dX6_placeAll_65 rfl hl (by decide) rfl (fun ls hl => ?_)
        exact l66  FU σ (1 : Int32) _ _ _ h hz (lv_sub hl [1, 0] rfl)
    · replace h := ite_f c1 h
      refine lv_aload_n hx hb dX6_placeAll_40 rfl (lv_at hl 0 rfl) ?_
      refine va_get (v := .ref (a 7)) hx hb hts inX6_placeAll_X6 hown hKK.1 hz.1 0 rfl rfl 14 (by decide) (hts _ (List.mem_of_getElem? (i := 8) rfl)) (fun _ h9 => h9) rfl dX6_placeAll_41 ?_
      refine lv_iload_n hx hb dX6_placeAll_44 rfl (lv_at hl 1 rfl) ?_
      refine lv_iconst (v := (0 : Int32)) hx hb dX6_placeAll_45 (by decide) ?_
      obtain ⟨c10, h⟩ := ck_e h
      refine zzast (f := σ 7) (w' := wdM cI cZ a hh (sa σ 7 (Int32.toNatClampNeg y1) (0 : Int32))) hx hb hKK hok wkM hz 7 rfl c10 (x' := (0 : Int32)) (by decide) setMa_7 dX6_placeAll_46 (fun H locs hz => ?_)
      refine lv_iinc (v := (y1 + (1 : Int32))) (lv' := [(1, .int (y1 + (1 : Int32))), (0, .ref (a 0))]) hx hb dX6_placeAll_47 hl (k := 1) rfl rfl (by decide) rfl (fun ls hl => ?_)
      refine lv_goto (tgt := 32) hx hb dX6_placeAll_50 (by decide) ?_
      exact hk32 (sa σ 7 (Int32.toNatClampNeg y1) (0 : Int32)) (y1 + (1 : Int32)) _ _ _ h hz (lv_sub hl [1, 0] rfl)
  have l32 : ∀  (n : Nat), ∀ (σ : St) (y1 : Int32) (H : Heap) (locs : List Loc) (ls : Array Slot), fX6_placeAll_l32  n σ y1 = some σ2 → zz (dC, dI) 18 a (wdM cI cZ a hh σ) s.heap H locs → lv_has ls 2 [(0, .ref (a 0)), (1, .int y1)] → W p l e rmX6_placeAll s m args below meth c H locs 0 0 Q (F0 m 32 ls []) := by
    intro  n
    induction n with
    | zero => intro σ y1 H locs ls h; exact nomatch h
    | succ n ih => exact s32  (fX6_placeAll_l32  n) ih
  unfold fX6_placeAll at h
  refine lv_aload_n hx hb dX6_placeAll_0 rfl (lv_at hl 0 rfl) ?_
  refine lv_iconst (v := (0 : Int32)) hx hb dX6_placeAll_1 (by decide) ?_
  refine zput (ty := .int) (w' := wdM cI cZ a hh (si σ 48 (0 : Int32))) hx hb hts inX6_placeAll_X6 tyX6 tyX6_ok nmX6 hown hKK hok wkM hz 0 rfl rfl 15 (by decide) (hts _ (List.mem_of_getElem? (i := 1) rfl)) (fun _ h9 => h9) rfl rfl rfl rfl (Nat.le_of_ble_eq_true rfl) setMi_48 dX6_placeAll_2 (fun H locs hz => ?_)
  refine lv_aload_n hx hb dX6_placeAll_5 rfl (lv_at hl 0 rfl) ?_
  refine lv_iconst (v := (0 : Int32)) hx hb dX6_placeAll_6 (by decide) ?_
  refine zput (ty := .int) (w' := wdM cI cZ a hh (si (si σ 48 (0 : Int32)) 49 (0 : Int32))) hx hb hts inX6_placeAll_X6 tyX6 tyX6_ok nmX6 hown hKK hok wkM hz 0 rfl rfl 18 (by decide) (hts _ (List.mem_of_getElem? (i := 2) rfl)) (fun _ h9 => h9) rfl rfl rfl rfl (Nat.le_of_ble_eq_true rfl) setMi_49 dX6_placeAll_7 (fun H locs hz => ?_)
  refine lv_aload_n hx hb dX6_placeAll_10 rfl (lv_at hl 0 rfl) ?_
  refine lv_iconst (v := (0 : Int32)) hx hb dX6_placeAll_11 (by decide) ?_
  refine zput (ty := .int) (w' := wdM cI cZ a hh (si (si (si σ 48 (0 : Int32)) 49 (0 : Int32)) 52 (0 : Int32))) hx hb hts inX6_placeAll_X6 tyX6 tyX6_ok nmX6 hown hKK hok wkM hz 0 rfl rfl 29 (by decide) (hts _ (List.mem_of_getElem? (i := 3) rfl)) (fun _ h9 => h9) rfl rfl rfl rfl (Nat.le_of_ble_eq_true rfl) setMi_52 dX6_placeAll_12 (fun H locs hz => ?_)
  refine lv_aload_n hx hb dX6_placeAll_15 rfl (lv_at hl 0 rfl) ?_
  refine lv_iconst (v := (1 : Int32)) hx hb dX6_placeAll_16 (by decide) ?_
  refine zput (ty := .boolean) (w' := wdM cI cZ a hh (si (si (si (si σ 48 (0 : Int32)) 49 (0 : Int32)) 52 (0 : Int32)) 53 (1 : Int32))) hx hb hts inX6_placeAll_X6 tyX6 tyX6_ok nmX6 hown hKK hok wkM hz 0 rfl rfl 30 (by decide) (hts _ (List.mem_of_getElem? (i := 4) rfl)) (fun _ h9 => h9) rfl rfl (by decide) (by decide) (Nat.le_of_ble_eq_true rfl) setMi_53 dX6_placeAll_17 (fun H locs hz => ?_)
  refine lv_aload_n hx hb dX6_placeAll_20 rfl (lv_at hl 0 rfl) ?_
  refine lv_iconst (v := (0 : Int32)) hx hb dX6_placeAll_21 (by decide) ?_
  refine zput (ty := .int) (w' := wdM cI cZ a hh (si (si (si (si (si σ 48 (0 : Int32)) 49 (0 : Int32)) 52 (0 : Int32)) 53 (1 : Int32)) 54 (0 : Int32))) hx hb hts inX6_placeAll_X6 tyX6 tyX6_ok nmX6 hown hKK hok wkM hz 0 rfl rfl 31 (by decide) (hts _ (List.mem_of_getElem? (i := 5) rfl)) (fun _ h9 => h9) rfl rfl rfl rfl (Nat.le_of_ble_eq_true rfl) setMi_54 dX6_placeAll_22 (fun H locs hz => ?_)
  refine lv_aload_n hx hb dX6_placeAll_25 rfl (lv_at hl 0 rfl) ?_
  refine lv_iconst (v := (-1 : Int32)) hx hb dX6_placeAll_26 (by decide) ?_
  refine zput (ty := .int) (w' := wdM cI cZ a hh (si (si (si (si (si (si σ 48 (0 : Int32)) 49 (0 : Int32)) 52 (0 : Int32)) 53 (1 : Int32)) 54 (0 : Int32)) 55 (-1 : Int32))) hx hb hts inX6_placeAll_X6 tyX6 tyX6_ok nmX6 hown hKK hok wkM hz 0 rfl rfl 32 (by decide) (hts _ (List.mem_of_getElem? (i := 6) rfl)) (fun _ h9 => h9) rfl rfl rfl rfl (Nat.le_of_ble_eq_true rfl) setMi_55 dX6_placeAll_27 (fun H locs hz => ?_)
  refine lv_iconst (v := (0 : Int32)) hx hb dX6_placeAll_30 (by decide) ?_
  refine lv_istore_n (lv' := [(1, .int (0 : Int32)), (0, .ref (a 0))]) hx hb dX6_placeAll_31 rfl hl (by decide) rfl (fun ls hl => ?_)
  exact l32  FU (si (si (si (si (si (si σ 48 (0 : Int32)) 49 (0 : Int32)) 52 (0 : Int32)) 53 (1 : Int32)) 54 (0 : Int32)) 55 (-1 : Int32)) (0 : Int32) _ _ _ h hz (lv_sub hl [1, 0] rfl)
