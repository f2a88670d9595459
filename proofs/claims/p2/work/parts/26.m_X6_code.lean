def fX6_code_s54 (k54 : St → Int32 → Option (Int32 × St)) (σ : St) (y1 : Int32) : Option (Int32 × St) :=
  (if (σ 41 0) ≤ y1 then ((bd1 (fX6_placeAll (si (si σ 42 ((σ 42 0) + (1 : Int32))) 40 (0 : Int32)) ) fun s10 => some ((s10 41 0), s10))) else ((ck (¬ (y1 < 0 ∨ 24 ≤ Int32.toNatClampNeg y1)) <| (ck (¬ (y1 < 0 ∨ 24 ≤ Int32.toNatClampNeg y1)) <| (ck (¬ (y1 < 0 ∨ 24 ≤ Int32.toNatClampNeg y1)) <| (ck (¬ (y1 < 0 ∨ 24 ≤ Int32.toNatClampNeg y1)) <| k54 (sa (sa σ 2 (Int32.toNatClampNeg y1) ((σ 5) (Int32.toNatClampNeg y1))) 3 (Int32.toNatClampNeg y1) ((σ 6) (Int32.toNatClampNeg y1))) (y1 + (1 : Int32))))))))
def fX6_code_l54  : Nat → St → Int32 → Option (Int32 × St) :=
  itr (fX6_code_s54 ) (fun _ _ => none)
def fX6_code (σ : St)  : Option (Int32 × St) :=
  (bd2 (fX6_goAlong σ ) fun r1 s2 => (if r1 < (s2 40 0) then (some ((-1003 : Int32), s2)) else ((if (s2 45 0) = (-1 : Int32) then ((if (s2 44 0) = 0 then (some ((-1003 : Int32), s2)) else ((if ((s2 47 0) &&& ((s2 46 0) ^^^ (-1 : Int32))) = 0 then (fX6_code_l54  FU (si s2 41 (s2 44 0)) (0 : Int32)) else (some ((-1003 : Int32), s2)))))) else (some ((-1003 : Int32), s2))))))
abbrev rmX6_code : Room := { frames := 7, cells := 0, slots := 0, locals := 159 }
set_option maxHeartbeats 4000000 in
set_option maxRecDepth 100000 in
theorem KX6_code {l : Launch} {dC : Nat → ClassId} {dI : Nat → Nat → Nat} {cI cZ : ClassId} {a : Nat → Nat} {hh : Int64} {σ : St}  {r : Int32} {σ2 : St} (hok : okA 18 a) (h : fX6_code σ  = some (r, σ2)) (sz : Nat) : Met l yX6_code wsX6_code rmX6_code (Pz (dC, dI) cI cZ (wdM cI cZ a hh σ) sz [.ref (a 0)]) (Qzi (dC, dI) 18 a (wdM cI cZ a hh σ2) sz r) 0 0 (aN 18 a sz) := by
  refine Met.ofW (cc := cX6_code) (maxL := 2) (ret := (some .int)) (by decide) rfl ?_
  intro p e s m args below meth c s₁ B hml hv
  obtain ⟨hav, hsz, hP, hKK⟩ := hv
  have hx := B.exec
  have hb := B.bytes
  have hr := B.returns
  have hts := atoms_spec (ws := wsX6_code) B.pre
  have hown : s.vm.findClass RX6 = some m.cls := findClass_of_methodNamed B.named
  have hlocks := B.notSynchronized
  have CF : CallFix p m c cX6_code 2 s args wsX6_code RX6 := ⟨hx, hb, hml, hown, hts⟩
  have hz : zz (dC, dI) 18 a (wdM cI cZ a hh σ) s.heap s.heap [] := ⟨hP, va_S.rf⟩
  have hl := lv_entry [.ref (a 0)] (n := 2) (Nat.le_of_ble_eq_true rfl)
  have hen : entryFrame m args 2 = entryFrame m ([.ref (a 0)] : List Value).toArray 2 := by rw [hav]
  rw [hen, lg_entry_eq]
  generalize (lg_sl [.ref (a 0)] ++ List.replicate (2 - (lg_sl [.ref (a 0)]).length) Slot.unset).toArray = ls at hl ⊢
  have hl : lv_has ls 2 [(0, .ref (a 0))] := hl
  have eR : (headSpec wsX6_code rmX6_code).room = rmX6_code := rfl
  rw [eR]
  have rt : ∀ (v : Int32) (t : St) (pc : Nat) (H : Heap) (locs : List Loc) (ls : Array Slot), decode cX6_code pc = .ok (.ireturn, 1) → some (v, t) = some (r, σ2) → zz (dC, dI) 18 a (wdM cI cZ a hh t) s.heap H locs → W p l e rmX6_code s m args below meth c H locs 0 0 (MQ below (Qzi (dC, dI) 18 a (wdM cI cZ a hh σ2) sz r) args s 0 0 (aN 18 a sz)) (F0 m pc ls [.int v]) := by
    intro v t pc H locs ls hd h hz
    cases h
    exact ziret hsz hx hb hr hlocks hz hd
  generalize (MQ below (Qzi (dC, dI) 18 a (wdM cI cZ a hh σ2) sz r) args s 0 0 (aN 18 a sz)) = Q at rt ⊢
  have s54 : ∀ (k54 : St → Int32 → Option (Int32 × St)) (hk54 : (∀ (σ : St) (y1 : Int32) (H : Heap) (locs : List Loc) (ls : Array Slot), k54 σ y1 = some (r, σ2) → zz (dC, dI) 18 a (wdM cI cZ a hh σ) s.heap H locs → lv_has ls 2 [(0, .ref (a 0)), (1, .int y1)] → W p l e rmX6_code s m args below meth c H locs 0 0 Q (F0 m 54 ls []))) (σ : St) (y1 : Int32) (H : Heap) (locs : List Loc) (ls : Array Slot), fX6_code_s54 k54 σ y1 = some (r, σ2) → zz (dC, dI) 18 a (wdM cI cZ a hh σ) s.heap H locs → lv_has ls 2 [(0, .ref (a 0)), (1, .int y1)] → W p l e rmX6_code s m args below meth c H locs 0 0 Q (F0 m 54 ls []) := by
    intro k54 hk54 σ y1 H locs ls h hz hl
    unfold fX6_code_s54 at h
    refine lv_iload_n hx hb dX6_code_54 rfl (lv_at hl 1 rfl) ?_
    refine lv_aload_n hx hb dX6_code_55 rfl (lv_at hl 0 rfl) ?_
    refine va_get (v := .int (σ 41 0)) hx hb hts inX6_code_X6 hown hKK.1 hz.1 0 rfl rfl 2 (by decide) (hts _ (List.mem_of_getElem? (i := 6) rfl)) (fun _ h9 => h9) rfl dX6_code_56 ?_
    refine lv_icmp_ge (tgt := 92) hx hb dX6_code_59 (by decide) (fun c8 => ?_) (fun c8 => ?_)
    · replace h := ite_t c8 h
      refine lv_aload_n hx hb dX6_code_92 rfl (lv_at hl 0 rfl) ?_
      refine lv_dup hx hb dX6_code_93 rfl ?_
      refine va_get (v := .int (σ 42 0)) hx hb hts inX6_code_X6 hown hKK.1 hz.1 0 rfl rfl 5 (by decide) (hts _ (List.mem_of_getElem? (i := 11) rfl)) (fun _ h9 => h9) rfl dX6_code_94 ?_
      refine lv_iconst (v := (1 : Int32)) hx hb dX6_code_97 (by decide) ?_
      refine lv_iadd hx hb dX6_code_98 ?_
      refine zput (ty := .int) (w' := wdM cI cZ a hh (si σ 42 ((σ 42 0) + (1 : Int32)))) hx hb hts inX6_code_X6 tyX6 tyX6_ok nmX6 hown hKK hok wkM hz 0 rfl rfl 5 (by decide) (hts _ (List.mem_of_getElem? (i := 11) rfl)) (fun _ h9 => h9) rfl rfl rfl rfl (Nat.le_of_ble_eq_true rfl) setMi_42 dX6_code_99 (fun H locs hz => ?_)
      refine lv_aload_n hx hb dX6_code_102 rfl (lv_at hl 0 rfl) ?_
      refine lv_iconst (v := (0 : Int32)) hx hb dX6_code_103 (by decide) ?_
      refine zput (ty := .int) (w' := wdM cI cZ a hh (si (si σ 42 ((σ 42 0) + (1 : Int32))) 40 (0 : Int32))) hx hb hts inX6_code_X6 tyX6 tyX6_ok nmX6 hown hKK hok wkM hz 0 rfl rfl 0 (by decide) (hts _ (List.mem_of_getElem? (i := 1) rfl)) (fun _ h9 => h9) rfl rfl rfl rfl (Nat.le_of_ble_eq_true rfl) setMi_40 dX6_code_104 (fun H locs hz => ?_)
      refine lv_aload_n hx hb dX6_code_107 rfl (lv_at hl 0 rfl) ?_
      obtain ⟨s10, e11, h⟩ := bd1_e h
      refine zcallVv (As := []) (rest := []) CF hKK (KX6_placeAll (dC := dC) (dI := dI) (cI := cI) (cZ := cZ) (a := a) hok e11) (cwV 0 hts gX6_code_X6_placeAll rfl rfl rfl cdX6_placeAll ⟨Nat.le_of_ble_eq_true rfl, Nat.le_of_ble_eq_true rfl⟩) 0 6 rfl rfl hz rfl hl.1 rfl (Nat.le_of_ble_eq_true rfl) dX6_code_108 ⟨Nat.le_refl _, Nat.le_refl _⟩ (fun H locs hz => ?_)
      refine lv_aload_n hx hb dX6_code_111 rfl (lv_at hl 0 rfl) ?_
      refine va_get (v := .int (s10 41 0)) hx hb hts inX6_code_X6 hown hKK.1 hz.1 0 rfl rfl 2 (by decide) (hts _ (List.mem_of_getElem? (i := 6) rfl)) (fun _ h9 => h9) rfl dX6_code_112 ?_
      exact rt (s10 41 0) s10 115 _ _ _ dX6_code_115 h hz
    · replace h := ite_f c8 h
      refine lv_aload_n hx hb dX6_code_62 rfl (lv_at hl 0 rfl) ?_
      refine va_get (v := .ref (a 2)) hx hb hts inX6_code_X6 hown hKK.1 hz.1 0 rfl rfl 3 (by decide) (hts _ (List.mem_of_getElem? (i := 7) rfl)) (fun _ h9 => h9) rfl dX6_code_63 ?_
      refine lv_iload_n hx hb dX6_code_66 rfl (lv_at hl 1 rfl) ?_
      refine lv_aload_n hx hb dX6_code_67 rfl (lv_at hl 0 rfl) ?_
      refine va_get (v := .ref (a 5)) hx hb hts inX6_code_X6 hown hKK.1 hz.1 0 rfl rfl 9 (by decide) (hts _ (List.mem_of_getElem? (i := 8) rfl)) (fun _ h9 => h9) rfl dX6_code_68 ?_
      refine lv_iload_n hx hb dX6_code_71 rfl (lv_at hl 1 rfl) ?_
      obtain ⟨c12, h⟩ := ck_e h
      refine va_iald (f := (σ 5)) hx hb hKK.1 hz.1 5 0 rfl rfl c12 dX6_code_72 ?_
      obtain ⟨c13, h⟩ := ck_e h
      refine ziast (f := σ 2) (w' := wdM cI cZ a hh (sa σ 2 (Int32.toNatClampNeg y1) ((σ 5) (Int32.toNatClampNeg y1)))) hx hb hKK hok wkM hz 2 rfl c13 setMa_2 dX6_code_73 (fun H locs hz => ?_)
      refine lv_aload_n hx hb dX6_code_74 rfl (lv_at hl 0 rfl) ?_
      refine va_get (v := .ref (a 3)) hx hb hts inX6_code_X6 hown hKK.1 hz.1 0 rfl rfl 4 (by decide) (hts _ (List.mem_of_getElem? (i := 9) rfl)) (fun _ h9 => h9) rfl dX6_code_75 ?_
      refine lv_iload_n hx hb dX6_code_78 rfl (lv_at hl 1 rfl) ?_
      refine lv_aload_n hx hb dX6_code_79 rfl (lv_at hl 0 rfl) ?_
      refine va_get (v := .ref (a 6)) hx hb hts inX6_code_X6 hown hKK.1 hz.1 0 rfl rfl 10 (by decide) (hts _ (List.mem_of_getElem? (i := 10) rfl)) (fun _ h9 => h9) rfl dX6_code_80 ?_
      refine lv_iload_n hx hb dX6_code_83 rfl (lv_at hl 1 rfl) ?_
      obtain ⟨c14, h⟩ := ck_e h
      refine va_iald (f := (σ 6)) hx hb hKK.1 hz.1 6 0 rfl rfl c14 dX6_code_84 ?_
      obtain ⟨c15, h⟩ := ck_e h
      refine ziast (f := (sa σ 2 (Int32.toNatClampNeg y1) ((σ 5) (Int32.toNatClampNeg y1))) 3) (w' := wdM cI cZ a hh (sa (sa σ 2 (Int32.toNatClampNeg y1) ((σ 5) (Int32.toNatClampNeg y1))) 3 (Int32.toNatClampNeg y1) ((σ 6) (Int32.toNatClampNeg y1)))) hx hb hKK hok wkM hz 3 rfl c15 setMa_3 dX6_code_85 (fun H locs hz => ?_)
      refine lv_iinc (v := (y1 + (1 : Int32))) (lv' := [(1, .int (y1 + (1 : Int32))), (0, .ref (a 0))]) hx hb dX6_code_86 hl (k := 1) rfl rfl (by decide) rfl (fun ls hl => ?_)
      refine lv_goto (tgt := 54) hx hb dX6_code_89 (by decide) ?_
      exact hk54 (sa (sa σ 2 (Int32.toNatClampNeg y1) ((σ 5) (Int32.toNatClampNeg y1))) 3 (Int32.toNatClampNeg y1) ((σ 6) (Int32.toNatClampNeg y1))) (y1 + (1 : Int32)) _ _ _ h hz (lv_sub hl [1, 0] rfl)
  have l54 : ∀  (n : Nat), ∀ (σ : St) (y1 : Int32) (H : Heap) (locs : List Loc) (ls : Array Slot), fX6_code_l54  n σ y1 = some (r, σ2) → zz (dC, dI) 18 a (wdM cI cZ a hh σ) s.heap H locs → lv_has ls 2 [(0, .ref (a 0)), (1, .int y1)] → W p l e rmX6_code s m args below meth c H locs 0 0 Q (F0 m 54 ls []) := by
    intro  n
    induction n with
    | zero => intro σ y1 H locs ls h; exact nomatch h
    | succ n ih => exact s54  (fX6_code_l54  n) ih
  unfold fX6_code at h
  refine lv_aload_n hx hb dX6_code_0 rfl (lv_at hl 0 rfl) ?_
  obtain ⟨r1, s2, e3, h⟩ := bd2_e h
  refine zcallVi (As := []) (rest := []) CF hKK (KX6_goAlong (dC := dC) (dI := dI) (cI := cI) (cZ := cZ) (a := a) hok e3) (cwV 0 hts gX6_code_X6_goAlong rfl rfl rfl cdX6_goAlong ⟨Nat.le_of_ble_eq_true rfl, Nat.le_of_ble_eq_true rfl⟩) 0 6 rfl rfl hz rfl hl.1 rfl (Nat.le_of_ble_eq_true rfl) dX6_code_1 ⟨Nat.le_refl _, Nat.le_refl _⟩ (fun H locs hz => ?_)
  refine lv_aload_n hx hb dX6_code_4 rfl (lv_at hl 0 rfl) ?_
  refine va_get (v := .int (s2 40 0)) hx hb hts inX6_code_X6 hown hKK.1 hz.1 0 rfl rfl 0 (by decide) (hts _ (List.mem_of_getElem? (i := 1) rfl)) (fun _ h9 => h9) rfl dX6_code_5 ?_
  refine lv_icmp_lt (tgt := 40) hx hb dX6_code_8 (by decide) (fun c4 => ?_) (fun c4 => ?_)
  · replace h := ite_t c4 h
    refine lv_sipush (v := (-1003 : Int32)) hx hb dX6_code_40 (by decide) ?_
    exact rt (-1003 : Int32) s2 43 _ _ _ dX6_code_43 h hz
  · replace h := ite_f c4 h
    refine lv_aload_n hx hb dX6_code_11 rfl (lv_at hl 0 rfl) ?_
    refine va_get (v := .int (s2 45 0)) hx hb hts inX6_code_X6 hown hKK.1 hz.1 0 rfl rfl 11 (by decide) (hts _ (List.mem_of_getElem? (i := 2) rfl)) (fun _ h9 => h9) rfl dX6_code_12 ?_
    refine lv_iconst (v := (-1 : Int32)) hx hb dX6_code_15 (by decide) ?_
    refine lv_icmp_ne (tgt := 40) hx hb dX6_code_16 (by decide) (fun c5 => ?_) (fun c5 => ?_)
    · replace h := ite_f c5 h
      refine lv_sipush (v := (-1003 : Int32)) hx hb dX6_code_40 (by decide) ?_
      exact rt (-1003 : Int32) s2 43 _ _ _ dX6_code_43 h hz
    · replace h := ite_t c5 h
      refine lv_aload_n hx hb dX6_code_19 rfl (lv_at hl 0 rfl) ?_
      refine va_get (v := .int (s2 44 0)) hx hb hts inX6_code_X6 hown hKK.1 hz.1 0 rfl rfl 8 (by decide) (hts _ (List.mem_of_getElem? (i := 3) rfl)) (fun _ h9 => h9) rfl dX6_code_20 ?_
      refine lv_if_eq (tgt := 40) hx hb dX6_code_23 (by decide) (fun c6 => ?_) (fun c6 => ?_)
      · replace h := ite_t c6 h
        refine lv_sipush (v := (-1003 : Int32)) hx hb dX6_code_40 (by decide) ?_
        exact rt (-1003 : Int32) s2 43 _ _ _ dX6_code_43 h hz
      · replace h := ite_f c6 h
        refine lv_aload_n hx hb dX6_code_26 rfl (lv_at hl 0 rfl) ?_
        refine va_get (v := .int (s2 47 0)) hx hb hts inX6_code_X6 hown hKK.1 hz.1 0 rfl rfl 13 (by decide) (hts _ (List.mem_of_getElem? (i := 4) rfl)) (fun _ h9 => h9) rfl dX6_code_27 ?_
        refine lv_aload_n hx hb dX6_code_30 rfl (lv_at hl 0 rfl) ?_
        refine va_get (v := .int (s2 46 0)) hx hb hts inX6_code_X6 hown hKK.1 hz.1 0 rfl rfl 12 (by decide) (hts _ (List.mem_of_getElem? (i := 5) rfl)) (fun _ h9 => h9) rfl dX6_code_31 ?_
        refine lv_iconst (v := (-1 : Int32)) hx hb dX6_code_34 (by decide) ?_
        refine lv_ixor hx hb dX6_code_35 ?_
        refine lv_iand hx hb dX6_code_36 ?_
        refine lv_if_eq (tgt := 44) hx hb dX6_code_37 (by decide) (fun c7 => ?_) (fun c7 => ?_)
        · replace h := ite_t c7 h
          refine lv_aload_n hx hb dX6_code_44 rfl (lv_at hl 0 rfl) ?_
          refine lv_aload_n hx hb dX6_code_45 rfl (lv_at hl 0 rfl) ?_
          refine va_get (v := .int (s2 44 0)) hx hb hts inX6_code_X6 hown hKK.1 hz.1 0 rfl rfl 8 (by decide) (hts _ (List.mem_of_getElem? (i := 3) rfl)) (fun _ h9 => h9) rfl dX6_code_46 ?_
          refine zput (ty := .int) (w' := wdM cI cZ a hh (si s2 41 (s2 44 0))) hx hb hts inX6_code_X6 tyX6 tyX6_ok nmX6 hown hKK hok wkM hz 0 rfl rfl 2 (by decide) (hts _ (List.mem_of_getElem? (i := 6) rfl)) (fun _ h9 => h9) rfl rfl rfl rfl (Nat.le_of_ble_eq_true rfl) setMi_41 dX6_code_49 (fun H locs hz => ?_)
          refine lv_iconst (v := (0 : Int32)) hx hb dX6_code_52 (by decide) ?_
          refine lv_istore_n (lv' := [(1, .int (0 : Int32)), (0, .ref (a 0))]) hx hb dX6_code_53 rfl hl (by decide) rfl (fun ls hl => ?_)
          exact l54  FU (si s2 41 (s2 44 0)) (0 : Int32) _ _ _ h hz (lv_sub hl [1, 0] rfl)
        · replace h := ite_f c7 h
          refine lv_sipush (v := (-1003 : Int32)) hx hb dX6_code_40 (by decide) ?_
          exact rt (-1003 : Int32) s2 43 _ _ _ dX6_code_43 h hz
def fX6_isItem (σ : St) (x1 : Int32) : Option (Int32) :=
  (bd1 (fX6_within σ x1 (0 : Int32) ((σ 41 0) - (1 : Int32))) fun r1 => (ck (r1 = 0 ∨ r1 = 1) <| some r1))
abbrev rmX6_isItem : Room := { frames := 1, cells := 0, slots := 0, locals := 22 }
set_option maxHeartbeats 4000000 in
set_option maxRecDepth 100000 in
theorem KX6_isItem {l : Launch} {dC : Nat → ClassId} {dI : Nat → Nat → Nat} {cI cZ : ClassId} {a : Nat → Nat} {hh : Int64} {σ : St} {x1 : Int32} {r : Int32} (hok : okA 18 a) (h : fX6_isItem σ x1 = some r) (sz : Nat) : Met l yX6_isItem wsX6_isItem rmX6_isItem (Pz (dC, dI) cI cZ (wdM cI cZ a hh σ) sz [.ref (a 0), .int x1]) (Qzi (dC, dI) 18 a (wdM cI cZ a hh σ) sz r) 0 0 (aN 18 a sz) := by
  refine Met.ofW (cc := cX6_isItem) (maxL := 2) (ret := (some .boolean)) (by decide) rfl ?_
  intro p e s m args below meth c s₁ B hml hv
  obtain ⟨hav, hsz, hP, hKK⟩ := hv
  have hx := B.exec
  have hb := B.bytes
  have hr := B.returns
  have hts := atoms_spec (ws := wsX6_isItem) B.pre
  have hown : s.vm.findClass RX6 = some m.cls := findClass_of_methodNamed B.named
  have hlocks := B.notSynchronized
  have CF : CallFix p m c cX6_isItem 2 s args wsX6_isItem RX6 := ⟨hx, hb, hml, hown, hts⟩
  have hz : zz (dC, dI) 18 a (wdM cI cZ a hh σ) s.heap s.heap [] := ⟨hP, va_S.rf⟩
  have hl := lv_entry [.ref (a 0), .int x1] (n := 2) (Nat.le_of_ble_eq_true rfl)
  have hen : entryFrame m args 2 = entryFrame m ([.ref (a 0), .int x1] : List Value).toArray 2 := by rw [hav]
  rw [hen, lg_entry_eq]
  generalize (lg_sl [.ref (a 0), .int x1] ++ List.replicate (2 - (lg_sl [.ref (a 0), .int x1]).length) Slot.unset).toArray = ls at hl ⊢
  have hl : lv_has ls 2 [(0, .ref (a 0)), (1, .int x1)] := hl
  have eR : (headSpec wsX6_isItem rmX6_isItem).room = rmX6_isItem := rfl
  rw [eR]
  have rt : ∀ (v : Int32) (t : St) (pc : Nat) (H : Heap) (locs : List Loc) (ls : Array Slot), decode cX6_isItem pc = .ok (.ireturn, 1) → some v = some r → zz (dC, dI) 18 a (wdM cI cZ a hh σ) s.heap H locs → (v = 0 ∨ v = 1) → W p l e rmX6_isItem s m args below meth c H locs 0 0 (MQ below (Qzi (dC, dI) 18 a (wdM cI cZ a hh σ) sz r) args s 0 0 (aN 18 a sz)) (F0 m pc ls [.int v]) := by
    intro v t pc H locs ls hd h hz hv
    cases h
    exact zzret hsz hx hb hr hlocks hv hz hd
  generalize (MQ below (Qzi (dC, dI) 18 a (wdM cI cZ a hh σ) sz r) args s 0 0 (aN 18 a sz)) = Q at rt ⊢
  unfold fX6_isItem at h
  refine lv_iload_n hx hb dX6_isItem_0 rfl (lv_at hl 1 rfl) ?_
  refine lv_iconst (v := (0 : Int32)) hx hb dX6_isItem_1 (by decide) ?_
  refine lv_aload_n hx hb dX6_isItem_2 rfl (lv_at hl 0 rfl) ?_
  refine va_get (v := .int (σ 41 0)) hx hb hts inX6_isItem_X6 hown hKK.1 hz.1 0 rfl rfl 2 (by decide) (hts _ (List.mem_of_getElem? (i := 1) rfl)) (fun _ h9 => h9) rfl dX6_isItem_3 ?_
  refine lv_iconst (v := (1 : Int32)) hx hb dX6_isItem_6 (by decide) ?_
  refine lv_isub hx hb dX6_isItem_7 ?_
  obtain ⟨r1, e3, h⟩ := bd1_e h
  refine zcallSi (As := [.int x1, .int (0 : Int32), .int ((σ 41 0) - (1 : Int32))]) (rest := []) CF hKK (KX6_within (dC := dC) (dI := dI) (cI := cI) (cZ := cZ) (a := a) hok e3) (va_cwS 3 hts gX6_isItem_X6_within rfl rfl rfl cdX6_within.2 ⟨Nat.le_of_ble_eq_true rfl, Nat.le_of_ble_eq_true rfl⟩) hz rfl hl.1 rfl (Nat.le_of_ble_eq_true rfl) dX6_isItem_8 ⟨Nat.le_refl _, Nat.le_refl _⟩ (fun H locs hz => ?_)
  obtain ⟨c4, h⟩ := ck_e h
  exact rt r1 σ 11 _ _ _ dX6_isItem_11 h hz c4
def fX6_reach_b30  (σ : St) (y1 : Int32) (y2 : Int32) (t0 : Int32) (t1 : Int32) (t2 : Int32) : Option (Int32 × St) :=
  (bd1 (fX6_within σ t2 t1 t0) fun r7 => (if r7 = 0 then (some ((-1002 : Int32), σ)) else ((ck (¬ (y1 < 0 ∨ 3 ≤ Int32.toNatClampNeg y1)) <| (ck (¬ (y1 < 0 ∨ 3 ≤ Int32.toNatClampNeg y1)) <| (bd1 (fX6_placeAll (si (sa σ 4 (Int32.toNatClampNeg y1) y2) 43 ((σ 43 0) + (1 : Int32))) ) fun s14 => some (((σ 4) (Int32.toNatClampNeg y1)), s14)))))))
def fX6_reach_b19  (σ : St) (y1 : Int32) (y2 : Int32) (t0 : Int32) (t1 : Int32) : Option (Int32 × St) :=
  (if y1 = 0 then (fX6_reach_b30  σ y1 y2 (60 : Int32) t0 t1) else (fX6_reach_b30  σ y1 y2 (120 : Int32) t0 t1))
def fX6_reach (σ : St) (x1 : Int32) (x2 : Int32) : Option (Int32 × St) :=
  (bd1 (fX6_within σ x1 (0 : Int32) (2 : Int32)) fun r1 => (if r1 = 0 then (some ((-1002 : Int32), σ)) else ((if x1 = 0 then (fX6_reach_b19  σ x1 x2 (2 : Int32) x2) else (fX6_reach_b19  σ x1 x2 (4 : Int32) x2)))))
abbrev rmX6_reach : Room := { frames := 7, cells := 0, slots := 0, locals := 159 }
set_option maxHeartbeats 4000000 in
set_option maxRecDepth 100000 in
theorem KX6_reach {l : Launch} {dC : Nat → ClassId} {dI : Nat → Nat → Nat} {cI cZ : ClassId} {a : Nat → Nat} {hh : Int64} {σ : St} {x1 : Int32} {x2 : Int32} {r : Int32} {σ2 : St} (hok : okA 18 a) (h : fX6_reach σ x1 x2 = some (r, σ2)) (sz : Nat) : Met l yX6_reach wsX6_reach rmX6_reach (Pz (dC, dI) cI cZ (wdM cI cZ a hh σ) sz [.ref (a 0), .int x1, .int x2]) (Qzi (dC, dI) 18 a (wdM cI cZ a hh σ2) sz r) 0 0 (aN 18 a sz) := by
  refine Met.ofW (cc := cX6_reach) (maxL := 4) (ret := (some .int)) (by decide) rfl ?_
  intro p e s m args below meth c s₁ B hml hv
  obtain ⟨hav, hsz, hP, hKK⟩ := hv
  have hx := B.exec
  have hb := B.bytes
  have hr := B.returns
  have hts := atoms_spec (ws := wsX6_reach) B.pre
  have hown : s.vm.findClass RX6 = some m.cls := findClass_of_methodNamed B.named
  have hlocks := B.notSynchronized
  have CF : CallFix p m c cX6_reach 4 s args wsX6_reach RX6 := ⟨hx, hb, hml, hown, hts⟩
  have hz : zz (dC, dI) 18 a (wdM cI cZ a hh σ) s.heap s.heap [] := ⟨hP, va_S.rf⟩
  have hl := lv_entry [.ref (a 0), .int x1, .int x2] (n := 4) (Nat.le_of_ble_eq_true rfl)
  have hen : entryFrame m args 4 = entryFrame m ([.ref (a 0), .int x1, .int x2] : List Value).toArray 4 := by rw [hav]
  rw [hen, lg_entry_eq]
  generalize (lg_sl [.ref (a 0), .int x1, .int x2] ++ List.replicate (4 - (lg_sl [.ref (a 0), .int x1, .int x2]).length) Slot.unset).toArray = ls at hl ⊢
  have hl : lv_has ls 4 [(0, .ref (a 0)), (1, .int x1), (2, .int x2)] := hl
  have eR : (headSpec wsX6_reach rmX6_reach).room = rmX6_reach := rfl
  rw [eR]
  have rt : ∀ (v : Int32) (t : St) (pc : Nat) (H : Heap) (locs : List Loc) (ls : Array Slot), decode cX6_reach pc = .ok (.ireturn, 1) → some (v, t) = some (r, σ2) → zz (dC, dI) 18 a (wdM cI cZ a hh t) s.heap H locs → W p l e rmX6_reach s m args below meth c H locs 0 0 (MQ below (Qzi (dC, dI) 18 a (wdM cI cZ a hh σ2) sz r) args s 0 0 (aN 18 a sz)) (F0 m pc ls [.int v]) := by
    intro v t pc H locs ls hd h hz
    cases h
    exact ziret hsz hx hb hr hlocks hz hd
  generalize (MQ below (Qzi (dC, dI) 18 a (wdM cI cZ a hh σ2) sz r) args s 0 0 (aN 18 a sz)) = Q at rt ⊢
  have b30 : ∀  (σ : St) (y1 : Int32) (y2 : Int32) (t0 : Int32) (t1 : Int32) (t2 : Int32) (H : Heap) (locs : List Loc) (ls : Array Slot), fX6_reach_b30  σ y1 y2 t0 t1 t2 = some (r, σ2) → zz (dC, dI) 18 a (wdM cI cZ a hh σ) s.heap H locs → lv_has ls 4 [(0, .ref (a 0)), (1, .int y1), (2, .int y2)] → W p l e rmX6_reach s m args below meth c H locs 0 0 Q (F0 m 30 ls [.int t0, .int t1, .int t2]) := by
    intro  σ y1 y2 t0 t1 t2 H locs ls h hz hl
    unfold fX6_reach_b30 at h
    obtain ⟨r7, e9, h⟩ := bd1_e h
    refine zcallSi (As := [.int t2, .int t1, .int t0]) (rest := []) CF hKK (KX6_within (dC := dC) (dI := dI) (cI := cI) (cZ := cZ) (a := a) hok e9) (va_cwS 3 hts gX6_reach_X6_within rfl rfl rfl cdX6_within.2 ⟨Nat.le_of_ble_eq_true rfl, Nat.le_of_ble_eq_true rfl⟩) hz rfl hl.1 rfl (Nat.le_of_ble_eq_true rfl) dX6_reach_30 ⟨Nat.le_refl _, Nat.le_refl _⟩ (fun H locs hz => ?_)
    refine lv_if_ne (tgt := 40) hx hb dX6_reach_33 (by decide) (fun c10 => ?_) (fun c10 => ?_)
    · replace h := ite_f c10 h
      refine lv_aload_n hx hb dX6_reach_40 rfl (lv_at hl 0 rfl) ?_
      refine va_get (v := .ref (a 4)) hx hb hts inX6_reach_X6 hown hKK.1 hz.1 0 rfl rfl 7 (by decide) (hts _ (List.mem_of_getElem? (i := 1) rfl)) (fun _ h9 => h9) rfl dX6_reach_41 ?_
      refine lv_iload_n hx hb dX6_reach_44 rfl (lv_at hl 1 rfl) ?_
      obtain ⟨c11, h⟩ := ck_e h
      refine va_iald (f := (σ 4)) hx hb hKK.1 hz.1 4 0 rfl rfl c11 dX6_reach_45 ?_
      refine lv_istore_n (lv' := [(3, .int ((σ 4) (Int32.toNatClampNeg y1))), (0, .ref (a 0)), (1, .int y1), (2, .int y2)]) hx hb dX6_reach_46 rfl hl (by decide) rfl (fun ls hl => ?_)
      refine lv_aload_n hx hb dX6_reach_47 rfl (lv_at hl 1 rfl) ?_
      refine va_get (v := .ref (a 4)) hx hb hts inX6_reach_X6 hown hKK.1 hz.1 0 rfl rfl 7 (by decide) (hts _ (List.mem_of_getElem? (i := 1) rfl)) (fun _ h9 => h9) rfl dX6_reach_48 ?_
      refine lv_iload_n hx hb dX6_reach_51 rfl (lv_at hl 2 rfl) ?_
      refine lv_iload_n hx hb dX6_reach_52 rfl (lv_at hl 3 rfl) ?_
      obtain ⟨c12, h⟩ := ck_e h
      refine ziast (f := σ 4) (w' := wdM cI cZ a hh (sa σ 4 (Int32.toNatClampNeg y1) y2)) hx hb hKK hok wkM hz 4 rfl c12 setMa_4 dX6_reach_53 (fun H locs hz => ?_)
      refine lv_aload_n hx hb dX6_reach_54 rfl (lv_at hl 1 rfl) ?_
      refine lv_dup hx hb dX6_reach_55 rfl ?_
      refine va_get (v := .int (σ 43 0)) hx hb hts inX6_reach_X6 hown hKK.1 hz.1 0 rfl rfl 6 (by decide) (hts _ (List.mem_of_getElem? (i := 2) rfl)) (fun _ h9 => h9) rfl dX6_reach_56 ?_
      refine lv_iconst (v := (1 : Int32)) hx hb dX6_reach_59 (by decide) ?_
      refine lv_iadd hx hb dX6_reach_60 ?_
      refine zput (ty := .int) (w' := wdM cI cZ a hh (si (sa σ 4 (Int32.toNatClampNeg y1) y2) 43 ((σ 43 0) + (1 : Int32)))) hx hb hts inX6_reach_X6 tyX6 tyX6_ok nmX6 hown hKK hok wkM hz 0 rfl rfl 6 (by decide) (hts _ (List.mem_of_getElem? (i := 2) rfl)) (fun _ h9 => h9) rfl rfl rfl rfl (Nat.le_of_ble_eq_true rfl) setMi_43 dX6_reach_61 (fun H locs hz => ?_)
      refine lv_aload_n hx hb dX6_reach_64 rfl (lv_at hl 1 rfl) ?_
      obtain ⟨s14, e15, h⟩ := bd1_e h
      refine zcallVv (As := []) (rest := []) CF hKK (KX6_placeAll (dC := dC) (dI := dI) (cI := cI) (cZ := cZ) (a := a) hok e15) (cwV 0 hts gX6_reach_X6_placeAll rfl rfl rfl cdX6_placeAll ⟨Nat.le_of_ble_eq_true rfl, Nat.le_of_ble_eq_true rfl⟩) 0 6 rfl rfl hz rfl hl.1 rfl (Nat.le_of_ble_eq_true rfl) dX6_reach_65 ⟨Nat.le_refl _, Nat.le_refl _⟩ (fun H locs hz => ?_)
      refine lv_iload_n hx hb dX6_reach_68 rfl (lv_at hl 0 rfl) ?_
      exact rt ((σ 4) (Int32.toNatClampNeg y1)) s14 69 _ _ _ dX6_reach_69 h hz
    · replace h := ite_t c10 h
      refine lv_sipush (v := (-1002 : Int32)) hx hb dX6_reach_36 (by decide) ?_
      exact rt (-1002 : Int32) σ 39 _ _ _ dX6_reach_39 h hz
  have b19 : ∀  (σ : St) (y1 : Int32) (y2 : Int32) (t0 : Int32) (t1 : Int32) (H : Heap) (locs : List Loc) (ls : Array Slot), fX6_reach_b19  σ y1 y2 t0 t1 = some (r, σ2) → zz (dC, dI) 18 a (wdM cI cZ a hh σ) s.heap H locs → lv_has ls 4 [(0, .ref (a 0)), (1, .int y1), (2, .int y2)] → W p l e rmX6_reach s m args below meth c H locs 0 0 Q (F0 m 19 ls [.int t0, .int t1]) := by
    intro  σ y1 y2 t0 t1 H locs ls h hz hl
    unfold fX6_reach_b19 at h
    refine lv_iload_n hx hb dX6_reach_19 rfl (lv_at hl 1 rfl) ?_
    refine lv_if_ne (tgt := 28) hx hb dX6_reach_20 (by decide) (fun c6 => ?_) (fun c6 => ?_)
    · replace h := ite_f c6 h
      refine lv_bipush (v := (120 : Int32)) hx hb dX6_reach_28 (by decide) ?_
      exact b30  σ y1 y2 (120 : Int32) t0 t1 _ _ _ h hz (lv_sub hl [0, 1, 2] rfl)
    · replace h := ite_t c6 h
      refine lv_bipush (v := (60 : Int32)) hx hb dX6_reach_23 (by decide) ?_
      refine lv_goto (tgt := 30) hx hb dX6_reach_25 (by decide) ?_
      exact b30  σ y1 y2 (60 : Int32) t0 t1 _ _ _ h hz (lv_sub hl [0, 1, 2] rfl)
  unfold fX6_reach at h
  refine lv_iload_n hx hb dX6_reach_0 rfl (lv_at hl 1 rfl) ?_
  refine lv_iconst (v := (0 : Int32)) hx hb dX6_reach_1 (by decide) ?_
  refine lv_iconst (v := (2 : Int32)) hx hb dX6_reach_2 (by decide) ?_
  obtain ⟨r1, e3, h⟩ := bd1_e h
  refine zcallSi (As := [.int x1, .int (0 : Int32), .int (2 : Int32)]) (rest := []) CF hKK (KX6_within (dC := dC) (dI := dI) (cI := cI) (cZ := cZ) (a := a) hok e3) (va_cwS 3 hts gX6_reach_X6_within rfl rfl rfl cdX6_within.2 ⟨Nat.le_of_ble_eq_true rfl, Nat.le_of_ble_eq_true rfl⟩) hz rfl hl.1 rfl (Nat.le_of_ble_eq_true rfl) dX6_reach_3 ⟨Nat.le_refl _, Nat.le_refl _⟩ (fun H locs hz => ?_)
  refine lv_if_eq (tgt := 36) hx hb dX6_reach_6 (by decide) (fun c4 => ?_) (fun c4 => ?_)
  · replace h := ite_t c4 h
    refine lv_sipush (v := (-1002 : Int32)) hx hb dX6_reach_36 (by decide) ?_
    exact rt (-1002 : Int32) σ 39 _ _ _ dX6_reach_39 h hz
  · replace h := ite_f c4 h
    refine lv_iload_n hx hb dX6_reach_9 rfl (lv_at hl 2 rfl) ?_
    refine lv_iload_n hx hb dX6_reach_10 rfl (lv_at hl 1 rfl) ?_
    refine lv_if_ne (tgt := 18) hx hb dX6_reach_11 (by decide) (fun c5 => ?_) (fun c5 => ?_)
    · replace h := ite_f c5 h
      refine lv_iconst (v := (4 : Int32)) hx hb dX6_reach_18 (by decide) ?_
      exact b19  σ x1 x2 (4 : Int32) x2 _ _ _ h hz (lv_sub hl [0, 1, 2] rfl)
    · replace h := ite_t c5 h
      refine lv_iconst (v := (2 : Int32)) hx hb dX6_reach_14 (by decide) ?_
      refine lv_goto (tgt := 19) hx hb dX6_reach_15 (by decide) ?_
      exact b19  σ x1 x2 (2 : Int32) x2 _ _ _ h hz (lv_sub hl [0, 1, 2] rfl)
def fX6_grow (σ : St) (x1 : Int32) (x2 : Int32) : Option (Int32 × St) :=
  (bd1 (fX6_isItem σ x1) fun r1 => (if r1 = 0 then (some ((-1001 : Int32), σ)) else ((bd1 (fX6_within σ x2 (1 : Int32) (40 : Int32)) fun r5 => (if r5 = 0 then (some ((-1002 : Int32), σ)) else ((ck (¬ (x1 < 0 ∨ 24 ≤ Int32.toNatClampNeg x1)) <| (if ((σ 2) (Int32.toNatClampNeg x1)) = 0 then ((ck (¬ (x1 < 0 ∨ 24 ≤ Int32.toNatClampNeg x1)) <| (ck (¬ (x1 < 0 ∨ 24 ≤ Int32.toNatClampNeg x1)) <| (bd1 (fX6_placeAll (si (sa σ 3 (Int32.toNatClampNeg x1) x2) 43 ((σ 43 0) + (1 : Int32))) ) fun s14 => some (((σ 3) (Int32.toNatClampNeg x1)), s14))))) else (some ((-1003 : Int32), σ))))))))))
abbrev rmX6_grow : Room := { frames := 7, cells := 0, slots := 0, locals := 159 }
set_option maxHeartbeats 4000000 in
set_option maxRecDepth 100000 in
theorem KX6_grow {l : Launch} {dC : Nat → ClassId} {dI : Nat → Nat → Nat} {cI cZ : ClassId} {a : Nat → Nat} {hh : Int64} {σ : St} {x1 : Int32} {x2 : Int32} {r : Int32} {σ2 : St} (hok : okA 18 a) (h : fX6_grow σ x1 x2 = some (r, σ2)) (sz : Nat) : Met l yX6_grow wsX6_grow rmX6_grow (Pz (dC, dI) cI cZ (wdM cI cZ a hh σ) sz [.ref (a 0), .int x1, .int x2]) (Qzi (dC, dI) 18 a (wdM cI cZ a hh σ2) sz r) 0 0 (aN 18 a sz) := by
  refine Met.ofW (cc := cX6_grow) (maxL := 4) (ret := (some .int)) (by decide) rfl ?_
  intro p e s m args below meth c s₁ B hml hv
  obtain ⟨hav, hsz, hP, hKK⟩ := hv
  have hx := B.exec
  have hb := B.bytes
  have hr := B.returns
  have hts := atoms_spec (ws := wsX6_grow) B.pre
  have hown : s.vm.findClass RX6 = some m.cls := findClass_of_methodNamed B.named
  have hlocks := B.notSynchronized
  have CF : CallFix p m c cX6_grow 4 s args wsX6_grow RX6 := ⟨hx, hb, hml, hown, hts⟩
  have hz : zz (dC, dI) 18 a (wdM cI cZ a hh σ) s.heap s.heap [] := ⟨hP, va_S.rf⟩
  have hl := lv_entry [.ref (a 0), .int x1, .int x2] (n := 4) (Nat.le_of_ble_eq_true rfl)
  have hen : entryFrame m args 4 = entryFrame m ([.ref (a 0), .int x1, .int x2] : List Value).toArray 4 := by rw [hav]
  rw [hen, lg_entry_eq]
  generalize (lg_sl [.ref (a 0), .int x1, .int x2] ++ List.replicate (4 - (lg_sl [.ref (a 0), .int x1, .int x2]).length) Slot.unset).toArray = ls at hl ⊢
  have hl : lv_has ls 4 [(0, .ref (a 0)), (1, .int x1), (2, .int x2)] := hl
  have eR : (headSpec wsX6_grow rmX6_grow).room = rmX6_grow := rfl
  rw [eR]
  have rt : ∀ (v : Int32) (t : St) (pc : Nat) (H : Heap) (locs : List Loc) (ls : Array Slot), decode cX6_grow pc = .ok (.ireturn, 1) → some (v, t) = some (r, σ2) → zz (dC, dI) 18 a (wdM cI cZ a hh t) s.heap H locs → W p l e rmX6_grow s m args below meth c H locs 0 0 (MQ below (Qzi (dC, dI) 18 a (wdM cI cZ a hh σ2) sz r) args s 0 0 (aN 18 a sz)) (F0 m pc ls [.int v]) := by
    intro v t pc H locs ls hd h hz
    cases h
    exact ziret hsz hx hb hr hlocks hz hd
  generalize (MQ below (Qzi (dC, dI) 18 a (wdM cI cZ a hh σ2) sz r) args s 0 0 (aN 18 a sz)) = Q at rt ⊢
  unfold fX6_grow at h
  refine lv_aload_n hx hb dX6_grow_0 rfl (lv_at hl 0 rfl) ?_
  refine lv_iload_n hx hb dX6_grow_1 rfl (lv_at hl 1 rfl) ?_
  obtain ⟨r1, e3, h⟩ := bd1_e h
  refine zcallVi (As := [.int x1]) (rest := []) CF hKK (KX6_isItem (dC := dC) (dI := dI) (cI := cI) (cZ := cZ) (a := a) hok e3) (cwV 1 hts gX6_grow_X6_isItem rfl rfl rfl cdX6_isItem ⟨Nat.le_of_ble_eq_true rfl, Nat.le_of_ble_eq_true rfl⟩) 0 6 rfl rfl hz rfl hl.1 rfl (Nat.le_of_ble_eq_true rfl) dX6_grow_2 ⟨Nat.le_refl _, Nat.le_refl _⟩ (fun H locs hz => ?_)
  refine lv_if_ne (tgt := 12) hx hb dX6_grow_5 (by decide) (fun c4 => ?_) (fun c4 => ?_)
  · replace h := ite_f c4 h
    refine lv_iload_n hx hb dX6_grow_12 rfl (lv_at hl 2 rfl) ?_
    refine lv_iconst (v := (1 : Int32)) hx hb dX6_grow_13 (by decide) ?_
    refine lv_bipush (v := (40 : Int32)) hx hb dX6_grow_14 (by decide) ?_
    obtain ⟨r5, e7, h⟩ := bd1_e h
    refine zcallSi (As := [.int x2, .int (1 : Int32), .int (40 : Int32)]) (rest := []) CF hKK (KX6_within (dC := dC) (dI := dI) (cI := cI) (cZ := cZ) (a := a) hok e7) (va_cwS 3 hts gX6_grow_X6_within rfl rfl rfl cdX6_within.2 ⟨Nat.le_of_ble_eq_true rfl, Nat.le_of_ble_eq_true rfl⟩) hz rfl hl.1 rfl (Nat.le_of_ble_eq_true rfl) dX6_grow_16 ⟨Nat.le_refl _, Nat.le_refl _⟩ (fun H locs hz => ?_)
    refine lv_if_ne (tgt := 26) hx hb dX6_grow_19 (by decide) (fun c8 => ?_) (fun c8 => ?_)
    · replace h := ite_f c8 h
      refine lv_aload_n hx hb dX6_grow_26 rfl (lv_at hl 0 rfl) ?_
      refine va_get (v := .ref (a 2)) hx hb hts inX6_grow_X6 hown hKK.1 hz.1 0 rfl rfl 3 (by decide) (hts _ (List.mem_of_getElem? (i := 1) rfl)) (fun _ h9 => h9) rfl dX6_grow_27 ?_
      refine lv_iload_n hx hb dX6_grow_30 rfl (lv_at hl 1 rfl) ?_
      obtain ⟨c9, h⟩ := ck_e h
      refine va_iald (f := (σ 2)) hx hb hKK.1 hz.1 2 0 rfl rfl c9 dX6_grow_31 ?_
      refine lv_if_eq (tgt := 39) hx hb dX6_grow_32 (by decide) (fun c10 => ?_) (fun c10 => ?_)
      · replace h := ite_t c10 h
        refine lv_aload_n hx hb dX6_grow_39 rfl (lv_at hl 0 rfl) ?_
        refine va_get (v := .ref (a 3)) hx hb hts inX6_grow_X6 hown hKK.1 hz.1 0 rfl rfl 4 (by decide) (hts _ (List.mem_of_getElem? (i := 2) rfl)) (fun _ h9 => h9) rfl dX6_grow_40 ?_
        refine lv_iload_n hx hb dX6_grow_43 rfl (lv_at hl 1 rfl) ?_
        obtain ⟨c11, h⟩ := ck_e h
        refine va_iald (f := (σ 3)) hx hb hKK.1 hz.1 3 0 rfl rfl c11 dX6_grow_44 ?_
        refine lv_istore_n (lv' := [(3, .int ((σ 3) (Int32.toNatClampNeg x1))), (0, .ref (a 0)), (1, .int x1), (2, .int x2)]) hx hb dX6_grow_45 rfl hl (by decide) rfl (fun ls hl => ?_)
        refine lv_aload_n hx hb dX6_grow_46 rfl (lv_at hl 1 rfl) ?_
        refine va_get (v := .ref (a 3)) hx hb hts inX6_grow_X6 hown hKK.1 hz.1 0 rfl rfl 4 (by decide) (hts _ (List.mem_of_getElem? (i := 2) rfl)) (fun _ h9 => h9) rfl dX6_grow_47 ?_
        refine lv_iload_n hx hb dX6_grow_50 rfl (lv_at hl 2 rfl) ?_
        refine lv_iload_n hx hb dX6_grow_51 rfl (lv_at hl 3 rfl) ?_
        obtain ⟨c12, h⟩ := ck_e h
        refine ziast (f := σ 3) (w' := wdM cI cZ a hh (sa σ 3 (Int32.toNatClampNeg x1) x2)) hx hb hKK hok wkM hz 3 rfl c12 setMa_3 dX6_grow_52 (fun H locs hz => ?_)
        refine lv_aload_n hx hb dX6_grow_53 rfl (lv_at hl 1 rfl) ?_
        refine lv_dup hx hb dX6_grow_54 rfl ?_
        refine va_get (v := .int (σ 43 0)) hx hb hts inX6_grow_X6 hown hKK.1 hz.1 0 rfl rfl 6 (by decide) (hts _ (List.mem_of_getElem? (i := 3) rfl)) (fun _ h9 => h9) rfl dX6_grow_55 ?_
        refine lv_iconst (v := (1 : Int32)) hx hb dX6_grow_58 (by decide) ?_
        refine lv_iadd hx hb dX6_grow_59 ?_
        refine zput (ty := .int) (w' := wdM cI cZ a hh (si (sa σ 3 (Int32.toNatClampNeg x1) x2) 43 ((σ 43 0) + (1 : Int32)))) hx hb hts inX6_grow_X6 tyX6 tyX6_ok nmX6 hown hKK hok wkM hz 0 rfl rfl 6 (by decide) (hts _ (List.mem_of_getElem? (i := 3) rfl)) (fun _ h9 => h9) rfl rfl rfl rfl (Nat.le_of_ble_eq_true rfl) setMi_43 dX6_grow_60 (fun H locs hz => ?_)
        refine lv_aload_n hx hb dX6_grow_63 rfl (lv_at hl 1 rfl) ?_
        obtain ⟨s14, e15, h⟩ := bd1_e h
        refine zcallVv (As := []) (rest := []) CF hKK (KX6_placeAll (dC := dC) (dI := dI) (cI := cI) (cZ := cZ) (a := a) hok e15) (cwV 0 hts gX6_grow_X6_placeAll rfl rfl rfl cdX6_placeAll ⟨Nat.le_of_ble_eq_true rfl, Nat.le_of_ble_eq_true rfl⟩) 0 6 rfl rfl hz rfl hl.1 rfl (Nat.le_of_ble_eq_true rfl) dX6_grow_64 ⟨Nat.le_refl _, Nat.le_refl _⟩ (fun H locs hz => ?_)
        refine lv_iload_n hx hb dX6_grow_67 rfl (lv_at hl 0 rfl) ?_
        exact rt ((σ 3) (Int32.toNatClampNeg x1)) s14 68 _ _ _ dX6_grow_68 h hz
      · replace h := ite_f c10 h
        refine lv_sipush (v := (-1003 : Int32)) hx hb dX6_grow_35 (by decide) ?_
        exact rt (-1003 : Int32) σ 38 _ _ _ dX6_grow_38 h hz
    · replace h := ite_t c8 h
      refine lv_sipush (v := (-1002 : Int32)) hx hb dX6_grow_22 (by decide) ?_
      exact rt (-1002 : Int32) σ 25 _ _ _ dX6_grow_25 h hz
  · replace h := ite_t c4 h
    refine lv_sipush (v := (-1001 : Int32)) hx hb dX6_grow_8 (by decide) ?_
    exact rt (-1001 : Int32) σ 11 _ _ _ dX6_grow_11 h hz
def fX6_itemNow (σ : St) (x1 : Int32) (x2 : Int32) : Option (Int32) :=
  (if x2 = (0 : Int32) then ((ck (¬ (x1 < 0 ∨ 24 ≤ Int32.toNatClampNeg x1)) <| some ((σ 2) (Int32.toNatClampNeg x1)))) else (if x2 = (1 : Int32) then ((ck (¬ (x1 < 0 ∨ 24 ≤ Int32.toNatClampNeg x1)) <| some ((σ 3) (Int32.toNatClampNeg x1)))) else (if x2 = (2 : Int32) then ((ck (¬ (x1 < 0 ∨ 24 ≤ Int32.toNatClampNeg x1)) <| some ((σ 12) (Int32.toNatClampNeg x1)))) else (if x2 = (3 : Int32) then ((ck (¬ (x1 < 0 ∨ 24 ≤ Int32.toNatClampNeg x1)) <| (bd1 (fX6_sizeOf σ x1 ((σ 12) (Int32.toNatClampNeg x1))) fun r9 => some r9))) else (if x2 = (4 : Int32) then ((ck (¬ (x1 < 0 ∨ 24 ≤ Int32.toNatClampNeg x1)) <| (if ((σ 7) (Int32.toNatClampNeg x1)) = 0 then (some (0 : Int32)) else (some (1 : Int32))))) else (bd1 (fX6_goesTo σ x1) fun r15 => some r15))))))
abbrev rmX6_itemNow : Room := { frames := 4, cells := 0, slots := 0, locals := 92 }
set_option maxHeartbeats 4000000 in
set_option maxRecDepth 100000 in
theorem KX6_itemNow {l : Launch} {dC : Nat → ClassId} {dI : Nat → Nat → Nat} {cI cZ : ClassId} {a : Nat → Nat} {hh : Int64} {σ : St} {x1 : Int32} {x2 : Int32} {r : Int32} (hok : okA 18 a) (h : fX6_itemNow σ x1 x2 = some r) (sz : Nat) : Met l yX6_itemNow wsX6_itemNow rmX6_itemNow (Pz (dC, dI) cI cZ (wdM cI cZ a hh σ) sz [.ref (a 0), .int x1, .int x2]) (Qzi (dC, dI) 18 a (wdM cI cZ a hh σ) sz r) 0 0 (aN 18 a sz) := by
  refine Met.ofW (cc := cX6_itemNow) (maxL := 3) (ret := (some .int)) (by decide) rfl ?_
  intro p e s m args below meth c s₁ B hml hv
  obtain ⟨hav, hsz, hP, hKK⟩ := hv
  have hx := B.exec
  have hb := B.bytes
  have hr := B.returns
  have hts := atoms_spec (ws := wsX6_itemNow) B.pre
  have hown : s.vm.findClass RX6 = some m.cls := findClass_of_methodNamed B.named
  have hlocks := B.notSynchronized
  have CF : CallFix p m c cX6_itemNow 3 s args wsX6_itemNow RX6 := ⟨hx, hb, hml, hown, hts⟩
  have hz : zz (dC, dI) 18 a (wdM cI cZ a hh σ) s.heap s.heap [] := ⟨hP, va_S.rf⟩
  have hl := lv_entry [.ref (a 0), .int x1, .int x2] (n := 3) (Nat.le_of_ble_eq_true rfl)
  have hen : entryFrame m args 3 = entryFrame m ([.ref (a 0), .int x1, .int x2] : List Value).toArray 3 := by rw [hav]
  rw [hen, lg_entry_eq]
  generalize (lg_sl [.ref (a 0), .int x1, .int x2] ++ List.replicate (3 - (lg_sl [.ref (a 0), .int x1, .int x2]).length) Slot.unset).toArray = ls at hl ⊢
  have hl : lv_has ls 3 [(0, .ref (a 0)), (1, .int x1), (2, .int x2)] := hl
  have eR : (headSpec wsX6_itemNow rmX6_itemNow).room = rmX6_itemNow := rfl
  rw [eR]
  have rt : ∀ (v : Int32) (t : St) (pc : Nat) (H : Heap) (locs : List Loc) (ls : Array Slot), decode cX6_itemNow pc = .ok (.ireturn, 1) → some v = some r → zz (dC, dI) 18 a (wdM cI cZ a hh σ) s.heap H locs → W p l e rmX6_itemNow s m args below meth c H locs 0 0 (MQ below (Qzi (dC, dI) 18 a (wdM cI cZ a hh σ) sz r) args s 0 0 (aN 18 a sz)) (F0 m pc ls [.int v]) := by
    intro v t pc H locs ls hd h hz
    cases h
    exact ziret hsz hx hb hr hlocks hz hd
  generalize (MQ below (Qzi (dC, dI) 18 a (wdM cI cZ a hh σ) sz r) args s 0 0 (aN 18 a sz)) = Q at rt ⊢
  unfold fX6_itemNow at h
  refine lv_iload_n hx hb dX6_itemNow_0 rfl (lv_at hl 2 rfl) ?_
  by_cases c1 : x2 = (0 : Int32)
  · replace h := ite_t c1 h
    refine lv_tableIn (tgt := 36) (off := 35) hx hb dX6_itemNow_1 (by rw [c1]; decide) (by rw [c1]; decide) (by rw [c1]; rfl) (by decide) ?_
    refine lv_aload_n hx hb dX6_itemNow_36 rfl (lv_at hl 0 rfl) ?_
    refine va_get (v := .ref (a 2)) hx hb hts inX6_itemNow_X6 hown hKK.1 hz.1 0 rfl rfl 3 (by decide) (hts _ (List.mem_of_getElem? (i := 1) rfl)) (fun _ h9 => h9) rfl dX6_itemNow_37 ?_
    refine lv_iload_n hx hb dX6_itemNow_40 rfl (lv_at hl 1 rfl) ?_
    obtain ⟨c2, h⟩ := ck_e h
    refine va_iald (f := (σ 2)) hx hb hKK.1 hz.1 2 0 rfl rfl c2 dX6_itemNow_41 ?_
    exact rt ((σ 2) (Int32.toNatClampNeg x1)) σ 42 _ _ _ dX6_itemNow_42 h hz
  replace h := ite_f c1 h
  by_cases c3 : x2 = (1 : Int32)
  · replace h := ite_t c3 h
    refine lv_tableIn (tgt := 43) (off := 42) hx hb dX6_itemNow_1 (by rw [c3]; decide) (by rw [c3]; decide) (by rw [c3]; rfl) (by decide) ?_
    refine lv_aload_n hx hb dX6_itemNow_43 rfl (lv_at hl 0 rfl) ?_
    refine va_get (v := .ref (a 3)) hx hb hts inX6_itemNow_X6 hown hKK.1 hz.1 0 rfl rfl 4 (by decide) (hts _ (List.mem_of_getElem? (i := 2) rfl)) (fun _ h9 => h9) rfl dX6_itemNow_44 ?_
    refine lv_iload_n hx hb dX6_itemNow_47 rfl (lv_at hl 1 rfl) ?_
    obtain ⟨c4, h⟩ := ck_e h
    refine va_iald (f := (σ 3)) hx hb hKK.1 hz.1 3 0 rfl rfl c4 dX6_itemNow_48 ?_
    exact rt ((σ 3) (Int32.toNatClampNeg x1)) σ 49 _ _ _ dX6_itemNow_49 h hz
  replace h := ite_f c3 h
  by_cases c5 : x2 = (2 : Int32)
  · replace h := ite_t c5 h
    refine lv_tableIn (tgt := 50) (off := 49) hx hb dX6_itemNow_1 (by rw [c5]; decide) (by rw [c5]; decide) (by rw [c5]; rfl) (by decide) ?_
    refine lv_aload_n hx hb dX6_itemNow_50 rfl (lv_at hl 0 rfl) ?_
    refine va_get (v := .ref (a 12)) hx hb hts inX6_itemNow_X6 hown hKK.1 hz.1 0 rfl rfl 21 (by decide) (hts _ (List.mem_of_getElem? (i := 3) rfl)) (fun _ h9 => h9) rfl dX6_itemNow_51 ?_
    refine lv_iload_n hx hb dX6_itemNow_54 rfl (lv_at hl 1 rfl) ?_
    obtain ⟨c6, h⟩ := ck_e h
    refine va_iald (f := (σ 12)) hx hb hKK.1 hz.1 12 0 rfl rfl c6 dX6_itemNow_55 ?_
    exact rt ((σ 12) (Int32.toNatClampNeg x1)) σ 56 _ _ _ dX6_itemNow_56 h hz
  replace h := ite_f c5 h
  by_cases c7 : x2 = (3 : Int32)
  · replace h := ite_t c7 h
    refine lv_tableIn (tgt := 57) (off := 56) hx hb dX6_itemNow_1 (by rw [c7]; decide) (by rw [c7]; decide) (by rw [c7]; rfl) (by decide) ?_
    refine lv_aload_n hx hb dX6_itemNow_57 rfl (lv_at hl 0 rfl) ?_
    refine lv_iload_n hx hb dX6_itemNow_58 rfl (lv_at hl 1 rfl) ?_
    refine lv_aload_n hx hb dX6_itemNow_59 rfl (lv_at hl 0 rfl) ?_
    refine va_get (v := .ref (a 12)) hx hb hts inX6_itemNow_X6 hown hKK.1 hz.1 0 rfl rfl 21 (by decide) (hts _ (List.mem_of_getElem? (i := 3) rfl)) (fun _ h9 => h9) rfl dX6_itemNow_60 ?_
    refine lv_iload_n hx hb dX6_itemNow_63 rfl (lv_at hl 1 rfl) ?_
    obtain ⟨c8, h⟩ := ck_e h
    refine va_iald (f := (σ 12)) hx hb hKK.1 hz.1 12 0 rfl rfl c8 dX6_itemNow_64 ?_
    obtain ⟨r9, e11, h⟩ := bd1_e h
    refine zcallVi (As := [.int x1, .int ((σ 12) (Int32.toNatClampNeg x1))]) (rest := []) CF hKK (KX6_sizeOf (dC := dC) (dI := dI) (cI := cI) (cZ := cZ) (a := a) hok e11) (cwV 2 hts gX6_itemNow_X6_sizeOf rfl rfl rfl cdX6_sizeOf ⟨Nat.le_of_ble_eq_true rfl, Nat.le_of_ble_eq_true rfl⟩) 0 6 rfl rfl hz rfl hl.1 rfl (Nat.le_of_ble_eq_true rfl) dX6_itemNow_65 ⟨Nat.le_refl _, Nat.le_refl _⟩ (fun H locs hz => ?_)
    exact rt r9 σ 68 _ _ _ dX6_itemNow_68 h hz
  replace h := ite_f c7 h
  by_cases c12 : x2 = (4 : Int32)
  · replace h := ite_t c12 h
    refine lv_tableIn (tgt := 69) (off := 68) hx hb dX6_itemNow_1 (by rw [c12]; decide) (by rw [c12]; decide) (by rw [c12]; rfl) (by decide) ?_
    refine lv_aload_n hx hb dX6_itemNow_69 rfl (lv_at hl 0 rfl) ?_
    refine va_get (v := .ref (a 7)) hx hb hts inX6_itemNow_X6 hown hKK.1 hz.1 0 rfl rfl 14 (by decide) (hts _ (List.mem_of_getElem? (i := 4) rfl)) (fun _ h9 => h9) rfl dX6_itemNow_70 ?_
    refine lv_iload_n hx hb dX6_itemNow_73 rfl (lv_at hl 1 rfl) ?_
    obtain ⟨c13, h⟩ := ck_e h
    refine va_zald (f := (σ 7)) hx hb hKK.1 hz.1 7 1 rfl rfl c13 dX6_itemNow_74 ?_
    refine lv_if_eq (tgt := 82) hx hb dX6_itemNow_75 (by decide) (fun c14 => ?_) (fun c14 => ?_)
    · replace h := ite_t c14 h
      refine lv_iconst (v := (0 : Int32)) hx hb dX6_itemNow_82 (by decide) ?_
      exact rt (0 : Int32) σ 83 _ _ _ dX6_itemNow_83 h hz
    · replace h := ite_f c14 h
      refine lv_iconst (v := (1 : Int32)) hx hb dX6_itemNow_78 (by decide) ?_
      refine lv_goto (tgt := 83) hx hb dX6_itemNow_79 (by decide) ?_
      exact rt (1 : Int32) σ 83 _ _ _ dX6_itemNow_83 h hz
  replace h := ite_f c12 h
  refine lv_tableOut (tgt := 84) hx hb dX6_itemNow_1 (by have := lv_neT c1 (a := 0) rfl; have := lv_neT c3 (a := 1) rfl; have := lv_neT c5 (a := 2) rfl; have := lv_neT c7 (a := 3) rfl; have := lv_neT c12 (a := 4) rfl; omega) (by decide) ?_
  refine lv_aload_n hx hb dX6_itemNow_84 rfl (lv_at hl 0 rfl) ?_
  refine lv_iload_n hx hb dX6_itemNow_85 rfl (lv_at hl 1 rfl) ?_
  obtain ⟨r15, e17, h⟩ := bd1_e h
  refine zcallVi (As := [.int x1]) (rest := []) CF hKK (KX6_goesTo (dC := dC) (dI := dI) (cI := cI) (cZ := cZ) (a := a) hok e17) (cwV 1 hts gX6_itemNow_X6_goesTo rfl rfl rfl cdX6_goesTo ⟨Nat.le_of_ble_eq_true rfl, Nat.le_of_ble_eq_true rfl⟩) 0 6 rfl rfl hz rfl hl.1 rfl (Nat.le_of_ble_eq_true rfl) dX6_itemNow_86 ⟨Nat.le_refl _, Nat.le_refl _⟩ (fun H locs hz => ?_)
  exact rt r15 σ 89 _ _ _ dX6_itemNow_89 h hz
def fX6_item (σ : St) (x1 : Int32) (x2 : Int32) : Option (Int32) :=
  (bd1 (fX6_isItem σ x1) fun r1 => (if r1 = 0 then (some (-1001 : Int32)) else ((bd1 (fX6_within σ x2 (0 : Int32) (5 : Int32)) fun r5 => (if r5 = 0 then (some (-1002 : Int32)) else ((bd1 (fX6_itemNow σ x1 x2) fun r9 => some r9)))))))
abbrev rmX6_item : Room := { frames := 5, cells := 0, slots := 0, locals := 114 }
set_option maxHeartbeats 4000000 in
set_option maxRecDepth 100000 in
theorem KX6_item {l : Launch} {dC : Nat → ClassId} {dI : Nat → Nat → Nat} {cI cZ : ClassId} {a : Nat → Nat} {hh : Int64} {σ : St} {x1 : Int32} {x2 : Int32} {r : Int32} (hok : okA 18 a) (h : fX6_item σ x1 x2 = some r) (sz : Nat) : Met l yX6_item wsX6_item rmX6_item (Pz (dC, dI) cI cZ (wdM cI cZ a hh σ) sz [.ref (a 0), .int x1, .int x2]) (Qzi (dC, dI) 18 a (wdM cI cZ a hh σ) sz r) 0 0 (aN 18 a sz) := by
  refine Met.ofW (cc := cX6_item) (maxL := 3) (ret := (some .int)) (by decide) rfl ?_
  intro p e s m args below meth c s₁ B hml hv
  obtain ⟨hav, hsz, hP, hKK⟩ := hv
  have hx := B.exec
  have hb := B.bytes
  have hr := B.returns
  have hts := atoms_spec (ws := wsX6_item) B.pre
  have hown : s.vm.findClass RX6 = some m.cls := findClass_of_methodNamed B.named
  have hlocks := B.notSynchronized
  have CF : CallFix p m c cX6_item 3 s args wsX6_item RX6 := ⟨hx, hb, hml, hown, hts⟩
  have hz : zz (dC, dI) 18 a (wdM cI cZ a hh σ) s.heap s.heap [] := ⟨hP, va_S.rf⟩
  have hl := lv_entry [.ref (a 0), .int x1, .int x2] (n := 3) (Nat.le_of_ble_eq_true rfl)
  have hen : entryFrame m args 3 = entryFrame m ([.ref (a 0), .int x1, .int x2] : List Value).toArray 3 := by rw [hav]
  rw [hen, lg_entry_eq]
  generalize (lg_sl [.ref (a 0), .int x1, .int x2] ++ List.replicate (3 - (lg_sl [.ref (a 0), .int x1, .int x2]).length) Slot.unset).toArray = ls at hl ⊢
  have hl : lv_has ls 3 [(0, .ref (a 0)), (1, .int x1), (2, .int x2)] := hl
  have eR : (headSpec wsX6_item rmX6_item).room = rmX6_item := rfl
  rw [eR]
  have rt : ∀ (v : Int32) (t : St) (pc : Nat) (H : Heap) (locs : List Loc) (ls : Array Slot), decode cX6_item pc = .ok (.ireturn, 1) → some v = some r → zz (dC, dI) 18 a (wdM cI cZ a hh σ) s.heap H locs → W p l e rmX6_item s m args below meth c H locs 0 0 (MQ below (Qzi (dC, dI) 18 a (wdM cI cZ a hh σ) sz r) args s 0 0 (aN 18 a sz)) (F0 m pc ls [.int v]) := by
    intro v t pc H locs ls hd h hz
    cases h
    exact ziret hsz hx hb hr hlocks hz hd
  generalize (MQ below (Qzi (dC, dI) 18 a (wdM cI cZ a hh σ) sz r) args s 0 0 (aN 18 a sz)) = Q at rt ⊢
  unfold fX6_item at h
  refine lv_aload_n hx hb dX6_item_0 rfl (lv_at hl 0 rfl) ?_
  refine lv_iload_n hx hb dX6_item_1 rfl (lv_at hl 1 rfl) ?_
  obtain ⟨r1, e3, h⟩ := bd1_e h
  refine zcallVi (As := [.int x1]) (rest := []) CF hKK (KX6_isItem (dC := dC) (dI := dI) (cI := cI) (cZ := cZ) (a := a) hok e3) (cwV 1 hts gX6_item_X6_isItem rfl rfl rfl cdX6_isItem ⟨Nat.le_of_ble_eq_true rfl, Nat.le_of_ble_eq_true rfl⟩) 0 6 rfl rfl hz rfl hl.1 rfl (Nat.le_of_ble_eq_true rfl) dX6_item_2 ⟨Nat.le_refl _, Nat.le_refl _⟩ (fun H locs hz => ?_)
  refine lv_if_ne (tgt := 12) hx hb dX6_item_5 (by decide) (fun c4 => ?_) (fun c4 => ?_)
  · replace h := ite_f c4 h
    refine lv_iload_n hx hb dX6_item_12 rfl (lv_at hl 2 rfl) ?_
    refine lv_iconst (v := (0 : Int32)) hx hb dX6_item_13 (by decide) ?_
    refine lv_iconst (v := (5 : Int32)) hx hb dX6_item_14 (by decide) ?_
    obtain ⟨r5, e7, h⟩ := bd1_e h
    refine zcallSi (As := [.int x2, .int (0 : Int32), .int (5 : Int32)]) (rest := []) CF hKK (KX6_within (dC := dC) (dI := dI) (cI := cI) (cZ := cZ) (a := a) hok e7) (va_cwS 3 hts gX6_item_X6_within rfl rfl rfl cdX6_within.2 ⟨Nat.le_of_ble_eq_true rfl, Nat.le_of_ble_eq_true rfl⟩) hz rfl hl.1 rfl (Nat.le_of_ble_eq_true rfl) dX6_item_15 ⟨Nat.le_refl _, Nat.le_refl _⟩ (fun H locs hz => ?_)
    refine lv_if_eq (tgt := 30) hx hb dX6_item_18 (by decide) (fun c8 => ?_) (fun c8 => ?_)
    · replace h := ite_t c8 h
      refine lv_sipush (v := (-1002 : Int32)) hx hb dX6_item_30 (by decide) ?_
      exact rt (-1002 : Int32) σ 33 _ _ _ dX6_item_33 h hz
    · replace h := ite_f c8 h
      refine lv_aload_n hx hb dX6_item_21 rfl (lv_at hl 0 rfl) ?_
      refine lv_iload_n hx hb dX6_item_22 rfl (lv_at hl 1 rfl) ?_
      refine lv_iload_n hx hb dX6_item_23 rfl (lv_at hl 2 rfl) ?_
      obtain ⟨r9, e11, h⟩ := bd1_e h
      refine zcallVi (As := [.int x1, .int x2]) (rest := []) CF hKK (KX6_itemNow (dC := dC) (dI := dI) (cI := cI) (cZ := cZ) (a := a) hok e11) (cwV 2 hts gX6_item_X6_itemNow rfl rfl rfl cdX6_itemNow ⟨Nat.le_of_ble_eq_true rfl, Nat.le_of_ble_eq_true rfl⟩) 0 6 rfl rfl hz rfl hl.1 rfl (Nat.le_of_ble_eq_true rfl) dX6_item_24 ⟨Nat.le_refl _, Nat.le_refl _⟩ (fun H locs hz => ?_)
      refine lv_goto (tgt := 33) hx hb dX6_item_27 (by decide) ?_
      exact rt r9 σ 33 _ _ _ dX6_item_33 h hz
  · replace h := ite_t c4 h
    refine lv_sipush (v := (-1001 : Int32)) hx hb dX6_item_8 (by decide) ?_
    exact rt (-1001 : Int32) σ 11 _ _ _ dX6_item_11 h hz
def fX6_islandNow (σ : St) (x1 : Int32) (x2 : Int32) : Option (Int32) :=
  (if x2 = 0 then ((ck (¬ (x1 < 0 ∨ 12 ≤ Int32.toNatClampNeg x1)) <| some ((σ 8) (Int32.toNatClampNeg x1)))) else ((if x2 = (1 : Int32) then ((ck (¬ (x1 < 0 ∨ 12 ≤ Int32.toNatClampNeg x1)) <| some ((σ 9) (Int32.toNatClampNeg x1)))) else ((if x2 = (2 : Int32) then ((ck (¬ (x1 < 0 ∨ 12 ≤ Int32.toNatClampNeg x1)) <| some ((σ 13) (Int32.toNatClampNeg x1)))) else ((ck (¬ (x1 < 0 ∨ 12 ≤ Int32.toNatClampNeg x1)) <| (ck (¬ (x1 < 0 ∨ 12 ≤ Int32.toNatClampNeg x1)) <| (bd1 (fX6_goesFrom σ ((σ 13) (Int32.toNatClampNeg x1)) ((σ 8) (Int32.toNatClampNeg x1))) fun r6 => some r6)))))))))
abbrev rmX6_islandNow : Room := { frames := 3, cells := 0, slots := 0, locals := 70 }
set_option maxHeartbeats 4000000 in
set_option maxRecDepth 100000 in
theorem KX6_islandNow {l : Launch} {dC : Nat → ClassId} {dI : Nat → Nat → Nat} {cI cZ : ClassId} {a : Nat → Nat} {hh : Int64} {σ : St} {x1 : Int32} {x2 : Int32} {r : Int32} (hok : okA 18 a) (h : fX6_islandNow σ x1 x2 = some r) (sz : Nat) : Met l yX6_islandNow wsX6_islandNow rmX6_islandNow (Pz (dC, dI) cI cZ (wdM cI cZ a hh σ) sz [.ref (a 0), .int x1, .int x2]) (Qzi (dC, dI) 18 a (wdM cI cZ a hh σ) sz r) 0 0 (aN 18 a sz) := by
  refine Met.ofW (cc := cX6_islandNow) (maxL := 3) (ret := (some .int)) (by decide) rfl ?_
  intro p e s m args below meth c s₁ B hml hv
  obtain ⟨hav, hsz, hP, hKK⟩ := hv
  have hx := B.exec
  have hb := B.bytes
  have hr := B.returns
  have hts := atoms_spec (ws := wsX6_islandNow) B.pre
  have hown : s.vm.findClass RX6 = some m.cls := findClass_of_methodNamed B.named
  have hlocks := B.notSynchronized
  have CF : CallFix p m c cX6_islandNow 3 s args wsX6_islandNow RX6 := ⟨hx, hb, hml, hown, hts⟩
  have hz : zz (dC, dI) 18 a (wdM cI cZ a hh σ) s.heap s.heap [] := ⟨hP, va_S.rf⟩
  have hl := lv_entry [.ref (a 0), .int x1, .int x2] (n := 3) (Nat.le_of_ble_eq_true rfl)
  have hen : entryFrame m args 3 = entryFrame m ([.ref (a 0), .int x1, .int x2] : List Value).toArray 3 := by rw [hav]
  rw [hen, lg_entry_eq]
  generalize (lg_sl [.ref (a 0), .int x1, .int x2] ++ List.replicate (3 - (lg_sl [.ref (a 0), .int x1, .int x2]).length) Slot.unset).toArray = ls at hl ⊢
  have hl : lv_has ls 3 [(0, .ref (a 0)), (1, .int x1), (2, .int x2)] := hl
  have eR : (headSpec wsX6_islandNow rmX6_islandNow).room = rmX6_islandNow := rfl
  rw [eR]
  have rt : ∀ (v : Int32) (t : St) (pc : Nat) (H : Heap) (locs : List Loc) (ls : Array Slot), decode cX6_islandNow pc = .ok (.ireturn, 1) → some v = some r → zz (dC, dI) 18 a (wdM cI cZ a hh σ) s.heap H locs → W p l e rmX6_islandNow s m args below meth c H locs 0 0 (MQ below (Qzi (dC, dI) 18 a (wdM cI cZ a hh σ) sz r) args s 0 0 (aN 18 a sz)) (F0 m pc ls [.int v]) := by
    intro v t pc H locs ls hd h hz
    cases h
    exact ziret hsz hx hb hr hlocks hz hd
  generalize (MQ below (Qzi (dC, dI) 18 a (wdM cI cZ a hh σ) sz r) args s 0 0 (aN 18 a sz)) = Q at rt ⊢
  unfold fX6_islandNow at h
  refine lv_iload_n hx hb dX6_islandNow_0 rfl (lv_at hl 2 rfl) ?_
  refine lv_if_ne (tgt := 13) hx hb dX6_islandNow_1 (by decide) (fun c1 => ?_) (fun c1 => ?_)
  · replace h := ite_f c1 h
    refine lv_iload_n hx hb dX6_islandNow_13 rfl (lv_at hl 2 rfl) ?_
    refine lv_iconst (v := (1 : Int32)) hx hb dX6_islandNow_14 (by decide) ?_
    refine lv_icmp_ne (tgt := 27) hx hb dX6_islandNow_15 (by decide) (fun c2 => ?_) (fun c2 => ?_)
    · replace h := ite_f c2 h
      refine lv_iload_n hx hb dX6_islandNow_27 rfl (lv_at hl 2 rfl) ?_
      refine lv_iconst (v := (2 : Int32)) hx hb dX6_islandNow_28 (by decide) ?_
      refine lv_icmp_ne (tgt := 41) hx hb dX6_islandNow_29 (by decide) (fun c3 => ?_) (fun c3 => ?_)
      · replace h := ite_f c3 h
        refine lv_aload_n hx hb dX6_islandNow_41 rfl (lv_at hl 0 rfl) ?_
        refine lv_aload_n hx hb dX6_islandNow_42 rfl (lv_at hl 0 rfl) ?_
        refine va_get (v := .ref (a 13)) hx hb hts inX6_islandNow_X6 hown hKK.1 hz.1 0 rfl rfl 22 (by decide) (hts _ (List.mem_of_getElem? (i := 3) rfl)) (fun _ h9 => h9) rfl dX6_islandNow_43 ?_
        refine lv_iload_n hx hb dX6_islandNow_46 rfl (lv_at hl 1 rfl) ?_
        obtain ⟨c4, h⟩ := ck_e h
        refine va_iald (f := (σ 13)) hx hb hKK.1 hz.1 13 0 rfl rfl c4 dX6_islandNow_47 ?_
        refine lv_aload_n hx hb dX6_islandNow_48 rfl (lv_at hl 0 rfl) ?_
        refine va_get (v := .ref (a 8)) hx hb hts inX6_islandNow_X6 hown hKK.1 hz.1 0 rfl rfl 16 (by decide) (hts _ (List.mem_of_getElem? (i := 1) rfl)) (fun _ h9 => h9) rfl dX6_islandNow_49 ?_
        refine lv_iload_n hx hb dX6_islandNow_52 rfl (lv_at hl 1 rfl) ?_
        obtain ⟨c5, h⟩ := ck_e h
        refine va_iald (f := (σ 8)) hx hb hKK.1 hz.1 8 0 rfl rfl c5 dX6_islandNow_53 ?_
        obtain ⟨r6, e8, h⟩ := bd1_e h
        refine zcallVi (As := [.int ((σ 13) (Int32.toNatClampNeg x1)), .int ((σ 8) (Int32.toNatClampNeg x1))]) (rest := []) CF hKK (KX6_goesFrom (dC := dC) (dI := dI) (cI := cI) (cZ := cZ) (a := a) hok e8) (cwV 2 hts gX6_islandNow_X6_goesFrom rfl rfl rfl cdX6_goesFrom ⟨Nat.le_of_ble_eq_true rfl, Nat.le_of_ble_eq_true rfl⟩) 0 6 rfl rfl hz rfl hl.1 rfl (Nat.le_of_ble_eq_true rfl) dX6_islandNow_54 ⟨Nat.le_refl _, Nat.le_refl _⟩ (fun H locs hz => ?_)
        exact rt r6 σ 57 _ _ _ dX6_islandNow_57 h hz
      · replace h := ite_t c3 h
        refine lv_aload_n hx hb dX6_islandNow_32 rfl (lv_at hl 0 rfl) ?_
        refine va_get (v := .ref (a 13)) hx hb hts inX6_islandNow_X6 hown hKK.1 hz.1 0 rfl rfl 22 (by decide) (hts _ (List.mem_of_getElem? (i := 3) rfl)) (fun _ h9 => h9) rfl dX6_islandNow_33 ?_
        refine lv_iload_n hx hb dX6_islandNow_36 rfl (lv_at hl 1 rfl) ?_
        obtain ⟨c9, h⟩ := ck_e h
        refine va_iald (f := (σ 13)) hx hb hKK.1 hz.1 13 0 rfl rfl c9 dX6_islandNow_37 ?_
        refine lv_goto (tgt := 57) hx hb dX6_islandNow_38 (by decide) ?_
        exact rt ((σ 13) (Int32.toNatClampNeg x1)) σ 57 _ _ _ dX6_islandNow_57 h hz
    · replace h := ite_t c2 h
      refine lv_aload_n hx hb dX6_islandNow_18 rfl (lv_at hl 0 rfl) ?_
      refine va_get (v := .ref (a 9)) hx hb hts inX6_islandNow_X6 hown hKK.1 hz.1 0 rfl rfl 17 (by decide) (hts _ (List.mem_of_getElem? (i := 2) rfl)) (fun _ h9 => h9) rfl dX6_islandNow_19 ?_
      refine lv_iload_n hx hb dX6_islandNow_22 rfl (lv_at hl 1 rfl) ?_
      obtain ⟨c10, h⟩ := ck_e h
      refine va_iald (f := (σ 9)) hx hb hKK.1 hz.1 9 0 rfl rfl c10 dX6_islandNow_23 ?_
      refine lv_goto (tgt := 57) hx hb dX6_islandNow_24 (by decide) ?_
      exact rt ((σ 9) (Int32.toNatClampNeg x1)) σ 57 _ _ _ dX6_islandNow_57 h hz
  · replace h := ite_t c1 h
    refine lv_aload_n hx hb dX6_islandNow_4 rfl (lv_at hl 0 rfl) ?_
    refine va_get (v := .ref (a 8)) hx hb hts inX6_islandNow_X6 hown hKK.1 hz.1 0 rfl rfl 16 (by decide) (hts _ (List.mem_of_getElem? (i := 1) rfl)) (fun _ h9 => h9) rfl dX6_islandNow_5 ?_
    refine lv_iload_n hx hb dX6_islandNow_8 rfl (lv_at hl 1 rfl) ?_
    obtain ⟨c11, h⟩ := ck_e h
    refine va_iald (f := (σ 8)) hx hb hKK.1 hz.1 8 0 rfl rfl c11 dX6_islandNow_9 ?_
    refine lv_goto (tgt := 57) hx hb dX6_islandNow_10 (by decide) ?_
    exact rt ((σ 8) (Int32.toNatClampNeg x1)) σ 57 _ _ _ dX6_islandNow_57 h hz
def fX6_island (σ : St) (x1 : Int32) (x2 : Int32) : Option (Int32) :=
  (bd1 (fX6_within σ x1 (0 : Int32) ((σ 48 0) - (1 : Int32))) fun r1 => (if r1 = 0 then (some (-1001 : Int32)) else ((bd1 (fX6_within σ x2 (0 : Int32) (3 : Int32)) fun r5 => (if r5 = 0 then (some (-1002 : Int32)) else ((bd1 (fX6_islandNow σ x1 x2) fun r9 => some r9)))))))
abbrev rmX6_island : Room := { frames := 4, cells := 0, slots := 0, locals := 92 }
set_option maxHeartbeats 4000000 in
set_option maxRecDepth 100000 in
theorem KX6_island {l : Launch} {dC : Nat → ClassId} {dI : Nat → Nat → Nat} {cI cZ : ClassId} {a : Nat → Nat} {hh : Int64} {σ : St} {x1 : Int32} {x2 : Int32} {r : Int32} (hok : okA 18 a) (h : fX6_island σ x1 x2 = some r) (sz : Nat) : Met l yX6_island wsX6_island rmX6_island (Pz (dC, dI) cI cZ (wdM cI cZ a hh σ) sz [.ref (a 0), .int x1, .int x2]) (Qzi (dC, dI) 18 a (wdM cI cZ a hh σ) sz r) 0 0 (aN 18 a sz) := by
  refine Met.ofW (cc := cX6_island) (maxL := 3) (ret := (some .int)) (by decide) rfl ?_
  intro p e s m args below meth c s₁ B hml hv
  obtain ⟨hav, hsz, hP, hKK⟩ := hv
  have hx := B.exec
  have hb := B.bytes
  have hr := B.returns
  have hts := atoms_spec (ws := wsX6_island) B.pre
  have hown : s.vm.findClass RX6 = some m.cls := findClass_of_methodNamed B.named
  have hlocks := B.notSynchronized
  have CF : CallFix p m c cX6_island 3 s args wsX6_island RX6 := ⟨hx, hb, hml, hown, hts⟩
  have hz : zz (dC, dI) 18 a (wdM cI cZ a hh σ) s.heap s.heap [] := ⟨hP, va_S.rf⟩
  have hl := lv_entry [.ref (a 0), .int x1, .int x2] (n := 3) (Nat.le_of_ble_eq_true rfl)
  have hen : entryFrame m args 3 = entryFrame m ([.ref (a 0), .int x1, .int x2] : List Value).toArray 3 := by rw [hav]
  rw [hen, lg_entry_eq]
  generalize (lg_sl [.ref (a 0), .int x1, .int x2] ++ List.replicate (3 - (lg_sl [.ref (a 0), .int x1, .int x2]).length) Slot.unset).toArray = ls at hl ⊢
  have hl : lv_has ls 3 [(0, .ref (a 0)), (1, .int x1), (2, .int x2)] := hl
  have eR : (headSpec wsX6_island rmX6_island).room = rmX6_island := rfl
  rw [eR]
  have rt : ∀ (v : Int32) (t : St) (pc : Nat) (H : Heap) (locs : List Loc) (ls : Array Slot), decode cX6_island pc = .ok (.ireturn, 1) → some v = some r → zz (dC, dI) 18 a (wdM cI cZ a hh σ) s.heap H locs → W p l e rmX6_island s m args below meth c H locs 0 0 (MQ below (Qzi (dC, dI) 18 a (wdM cI cZ a hh σ) sz r) args s 0 0 (aN 18 a sz)) (F0 m pc ls [.int v]) := by
    intro v t pc H locs ls hd h hz
    cases h
    exact ziret hsz hx hb hr hlocks hz hd
  generalize (MQ below (Qzi (dC, dI) 18 a (wdM cI cZ a hh σ) sz r) args s 0 0 (aN 18 a sz)) = Q at rt ⊢
  unfold fX6_island at h
  refine lv_iload_n hx hb dX6_island_0 rfl (lv_at hl 1 rfl) ?_
  refine lv_iconst (v := (0 : Int32)) hx hb dX6_island_1 (by decide) ?_
  refine lv_aload_n hx hb dX6_island_2 rfl (lv_at hl 0 rfl) ?_
  refine va_get (v := .int (σ 48 0)) hx hb hts inX6_island_X6 hown hKK.1 hz.1 0 rfl rfl 15 (by decide) (hts _ (List.mem_of_getElem? (i := 1) rfl)) (fun _ h9 => h9) rfl dX6_island_3 ?_
  refine lv_iconst (v := (1 : Int32)) hx hb dX6_island_6 (by decide) ?_
  refine lv_isub hx hb dX6_island_7 ?_
  obtain ⟨r1, e3, h⟩ := bd1_e h
  refine zcallSi (As := [.int x1, .int (0 : Int32), .int ((σ 48 0) - (1 : Int32))]) (rest := []) CF hKK (KX6_within (dC := dC) (dI := dI) (cI := cI) (cZ := cZ) (a := a) hok e3) (va_cwS 3 hts gX6_island_X6_within rfl rfl rfl cdX6_within.2 ⟨Nat.le_of_ble_eq_true rfl, Nat.le_of_ble_eq_true rfl⟩) hz rfl hl.1 rfl (Nat.le_of_ble_eq_true rfl) dX6_island_8 ⟨Nat.le_refl _, Nat.le_refl _⟩ (fun H locs hz => ?_)
  refine lv_if_ne (tgt := 18) hx hb dX6_island_11 (by decide) (fun c4 => ?_) (fun c4 => ?_)
  · replace h := ite_f c4 h
    refine lv_iload_n hx hb dX6_island_18 rfl (lv_at hl 2 rfl) ?_
    refine lv_iconst (v := (0 : Int32)) hx hb dX6_island_19 (by decide) ?_
    refine lv_iconst (v := (3 : Int32)) hx hb dX6_island_20 (by decide) ?_
    obtain ⟨r5, e7, h⟩ := bd1_e h
    refine zcallSi (As := [.int x2, .int (0 : Int32), .int (3 : Int32)]) (rest := []) CF hKK (KX6_within (dC := dC) (dI := dI) (cI := cI) (cZ := cZ) (a := a) hok e7) (va_cwS 3 hts gX6_island_X6_within rfl rfl rfl cdX6_within.2 ⟨Nat.le_of_ble_eq_true rfl, Nat.le_of_ble_eq_true rfl⟩) hz rfl hl.1 rfl (Nat.le_of_ble_eq_true rfl) dX6_island_21 ⟨Nat.le_refl _, Nat.le_refl _⟩ (fun H locs hz => ?_)
    refine lv_if_eq (tgt := 36) hx hb dX6_island_24 (by decide) (fun c8 => ?_) (fun c8 => ?_)
    · replace h := ite_t c8 h
      refine lv_sipush (v := (-1002 : Int32)) hx hb dX6_island_36 (by decide) ?_
      exact rt (-1002 : Int32) σ 39 _ _ _ dX6_island_39 h hz
    · replace h := ite_f c8 h
      refine lv_aload_n hx hb dX6_island_27 rfl (lv_at hl 0 rfl) ?_
      refine lv_iload_n hx hb dX6_island_28 rfl (lv_at hl 1 rfl) ?_
      refine lv_iload_n hx hb dX6_island_29 rfl (lv_at hl 2 rfl) ?_
      obtain ⟨r9, e11, h⟩ := bd1_e h
      refine zcallVi (As := [.int x1, .int x2]) (rest := []) CF hKK (KX6_islandNow (dC := dC) (dI := dI) (cI := cI) (cZ := cZ) (a := a) hok e11) (cwV 2 hts gX6_island_X6_islandNow rfl rfl rfl cdX6_islandNow ⟨Nat.le_of_ble_eq_true rfl, Nat.le_of_ble_eq_true rfl⟩) 0 6 rfl rfl hz rfl hl.1 rfl (Nat.le_of_ble_eq_true rfl) dX6_island_30 ⟨Nat.le_refl _, Nat.le_refl _⟩ (fun H locs hz => ?_)
      refine lv_goto (tgt := 39) hx hb dX6_island_33 (by decide) ?_
      exact rt r9 σ 39 _ _ _ dX6_island_39 h hz
  · replace h := ite_t c4 h
    refine lv_sipush (v := (-1001 : Int32)) hx hb dX6_island_14 (by decide) ?_
    exact rt (-1001 : Int32) σ 17 _ _ _ dX6_island_17 h hz
