def fX3_ends_b145  (σ : St) (y1 : Int32) (y2 : Int32) : Option (Int32 × St) :=
  (if y1 < (65 : Int32) then (some ((0 : Int32), σ)) else ((if (73 : Int32) ≤ y1 then (some ((0 : Int32), σ)) else ((bd2 (fX3_endsWithLabel σ y2 (y1 - (65 : Int32))) fun r24 s25 => (if r24 = 0 then (some ((0 : Int32), s25)) else (some ((1 : Int32), s25))))))))
def fX3_ends (σ : St) (x1 : Int32) : Option (Int32 × St) :=
  (if (σ 43 0) = (0 : Int32) then ((if x1 < (49 : Int32) then (some ((0 : Int32), (si σ 43 (-1 : Int32)))) else ((if (57 : Int32) < x1 then (some ((0 : Int32), (si σ 43 (-1 : Int32)))) else ((bd2 (fX0_add_r (si σ 43 (-1 : Int32)) (0 : Int32) (x1 - (48 : Int32))) fun r4 s5 => (if r4 = 0 then (some ((0 : Int32), s5)) else (some ((1 : Int32), s5))))))))) else (if (σ 43 0) = (1 : Int32) then ((if x1 < (48 : Int32) then (some ((0 : Int32), (si σ 43 (-1 : Int32)))) else ((if (57 : Int32) < x1 then (some ((0 : Int32), (si σ 43 (-1 : Int32)))) else ((bd2 (fX0_add_r (si σ 43 (-1 : Int32)) (1 : Int32) (x1 - (48 : Int32))) fun r11 s12 => (if r11 = 0 then (some ((0 : Int32), s12)) else (some ((1 : Int32), s12))))))))) else (if (σ 43 0) = (4 : Int32) then ((if x1 < (49 : Int32) then (some ((0 : Int32), (si σ 43 (-1 : Int32)))) else ((if (51 : Int32) < x1 then (some ((0 : Int32), (si σ 43 (-1 : Int32)))) else ((bd2 (fX0_add_r (si σ 43 (-1 : Int32)) (4 : Int32) ((1 : Int32) <<< ((x1 - (48 : Int32)) &&& 31))) fun r18 s19 => (if r18 = 0 then (some ((0 : Int32), s19)) else (some ((1 : Int32), s19))))))))) else fX3_ends_b145  (si σ 43 (-1 : Int32)) x1 (σ 43 0))))
abbrev rmX3_ends : Room := { frames := 2, cells := 0, slots := 0, locals := 45 }
set_option maxHeartbeats 4000000 in
set_option maxRecDepth 100000 in
theorem KX3_ends {l : Launch} {dC : Nat → ClassId} {dI : Nat → Nat → Nat} {cI cZ : ClassId} {a : Nat → Nat} {σ : St} {x1 : Int32} {r : Int32} {σ2 : St} (hok : okA 30 a) (h : fX3_ends σ x1 = some (r, σ2)) (sz : Nat) : Met l yX3_ends wsX3_ends rmX3_ends (Pz (dC, dI) cI cZ (wdC cI cZ a σ) sz [.ref (a 3), .int x1]) (Qzi (dC, dI) 30 a (wdC cI cZ a σ2) sz r) 0 0 (aN 30 a sz) := by
  refine Met.ofW (cc := cX3_ends) (maxL := 3) (ret := (some .boolean)) (by decide) rfl ?_
  intro p e s m args below meth c s₁ B hml hv
  obtain ⟨hav, hsz, hP, hKK⟩ := hv
  have hx := B.exec
  have hb := B.bytes
  have hr := B.returns
  have hts := atoms_spec (ws := wsX3_ends) B.pre
  have hown : s.vm.findClass RX3 = some m.cls := findClass_of_methodNamed B.named
  have hlocks := B.notSynchronized
  have CF : CallFix p m c cX3_ends 3 s args wsX3_ends RX3 := ⟨hx, hb, hml, hown, hts⟩
  have hz : zz (dC, dI) 30 a (wdC cI cZ a σ) s.heap s.heap [] := ⟨hP, va_S.rf⟩
  have hl := lv_entry [.ref (a 3), .int x1] (n := 3) (Nat.le_of_ble_eq_true rfl)
  have hen : entryFrame m args 3 = entryFrame m ([.ref (a 3), .int x1] : List Value).toArray 3 := by rw [hav]
  rw [hen, lg_entry_eq]
  generalize (lg_sl [.ref (a 3), .int x1] ++ List.replicate (3 - (lg_sl [.ref (a 3), .int x1]).length) Slot.unset).toArray = ls at hl ⊢
  have hl : lv_has ls 3 [(0, .ref (a 3)), (1, .int x1)] := hl
  have eR : (headSpec wsX3_ends rmX3_ends).room = rmX3_ends := rfl
  rw [eR]
  have rt : ∀ (v : Int32) (t : St) (pc : Nat) (H : Heap) (locs : List Loc) (ls : Array Slot), decode cX3_ends pc = .ok (.ireturn, 1) → some (v, t) = some (r, σ2) → zz (dC, dI) 30 a (wdC cI cZ a t) s.heap H locs → (v = 0 ∨ v = 1) → W p l e rmX3_ends s m args below meth c H locs 0 0 (MQ below (Qzi (dC, dI) 30 a (wdC cI cZ a σ2) sz r) args s 0 0 (aN 30 a sz)) (F0 m pc ls [.int v]) := by
    intro v t pc H locs ls hd h hz hv
    cases h
    exact zzret hsz hx hb hr hlocks hv hz hd
  generalize (MQ below (Qzi (dC, dI) 30 a (wdC cI cZ a σ2) sz r) args s 0 0 (aN 30 a sz)) = Q at rt ⊢
  have b145 : ∀  (σ : St) (y1 : Int32) (y2 : Int32) (H : Heap) (locs : List Loc) (ls : Array Slot), fX3_ends_b145  σ y1 y2 = some (r, σ2) → zz (dC, dI) 30 a (wdC cI cZ a σ) s.heap H locs → lv_has ls 3 [(0, .ref (a 3)), (1, .int y1), (2, .int y2)] → W p l e rmX3_ends s m args below meth c H locs 0 0 Q (F0 m 145 ls []) := by
    intro  σ y1 y2 H locs ls h hz hl
    unfold fX3_ends_b145 at h
    refine lv_iload_n hx hb dX3_ends_145 rfl (lv_at hl 1 rfl) ?_
    refine lv_bipush (v := (65 : Int32)) hx hb dX3_ends_146 (by decide) ?_
    refine lv_icmp_lt (tgt := 173) hx hb dX3_ends_148 (by decide) (fun c22 => ?_) (fun c22 => ?_)
    · replace h := ite_t c22 h
      refine lv_iconst (v := (0 : Int32)) hx hb dX3_ends_173 (by decide) ?_
      exact rt (0 : Int32) σ 174 _ _ _ dX3_ends_174 h hz (Or.inl rfl)
    · replace h := ite_f c22 h
      refine lv_iload_n hx hb dX3_ends_151 rfl (lv_at hl 1 rfl) ?_
      refine lv_bipush (v := (73 : Int32)) hx hb dX3_ends_152 (by decide) ?_
      refine lv_icmp_ge (tgt := 173) hx hb dX3_ends_154 (by decide) (fun c23 => ?_) (fun c23 => ?_)
      · replace h := ite_t c23 h
        refine lv_iconst (v := (0 : Int32)) hx hb dX3_ends_173 (by decide) ?_
        exact rt (0 : Int32) σ 174 _ _ _ dX3_ends_174 h hz (Or.inl rfl)
      · replace h := ite_f c23 h
        refine lv_aload_n hx hb dX3_ends_157 rfl (lv_at hl 0 rfl) ?_
        refine lv_iload_n hx hb dX3_ends_158 rfl (lv_at hl 2 rfl) ?_
        refine lv_iload_n hx hb dX3_ends_159 rfl (lv_at hl 1 rfl) ?_
        refine lv_bipush (v := (65 : Int32)) hx hb dX3_ends_160 (by decide) ?_
        refine lv_isub hx hb dX3_ends_162 ?_
        obtain ⟨r24, s25, e26, h⟩ := bd2_e h
        refine zcallVi (As := [.int y2, .int (y1 - (65 : Int32))]) (rest := []) CF hKK (KX3_endsWithLabel (dC := dC) (dI := dI) (cI := cI) (cZ := cZ) (a := a) hok e26) (cwV 2 hts gX3_ends_X3_endsWithLabel rfl rfl rfl cdX3_endsWithLabel ⟨Nat.le_of_ble_eq_true rfl, Nat.le_of_ble_eq_true rfl⟩) 3 3 rfl rfl hz rfl hl.1 rfl (Nat.le_of_ble_eq_true rfl) dX3_ends_163 ⟨Nat.le_refl _, Nat.le_refl _⟩ (fun H locs hz => ?_)
        refine lv_if_eq (tgt := 173) hx hb dX3_ends_166 (by decide) (fun c27 => ?_) (fun c27 => ?_)
        · replace h := ite_t c27 h
          refine lv_iconst (v := (0 : Int32)) hx hb dX3_ends_173 (by decide) ?_
          exact rt (0 : Int32) s25 174 _ _ _ dX3_ends_174 h hz (Or.inl rfl)
        · replace h := ite_f c27 h
          refine lv_iconst (v := (1 : Int32)) hx hb dX3_ends_169 (by decide) ?_
          refine lv_goto (tgt := 174) hx hb dX3_ends_170 (by decide) ?_
          exact rt (1 : Int32) s25 174 _ _ _ dX3_ends_174 h hz (Or.inr rfl)
  unfold fX3_ends at h
  refine lv_aload_n hx hb dX3_ends_0 rfl (lv_at hl 0 rfl) ?_
  refine va_get (v := .int (σ 43 0)) hx hb hts inX3_ends_X3 hown hKK.1 hz.1 3 rfl rfl 1 (by decide) (hts _ (List.mem_of_getElem? (i := 1) rfl)) (fun _ h9 => h9) rfl dX3_ends_1 ?_
  refine lv_istore_n (lv' := [(2, .int (σ 43 0)), (0, .ref (a 3)), (1, .int x1)]) hx hb dX3_ends_4 rfl hl (by decide) rfl (fun ls hl => ?_)
  refine lv_aload_n hx hb dX3_ends_5 rfl (lv_at hl 1 rfl) ?_
  refine lv_iconst (v := (-1 : Int32)) hx hb dX3_ends_6 (by decide) ?_
  refine zput (ty := .int) (w' := wdC cI cZ a (si σ 43 (-1 : Int32))) hx hb hts inX3_ends_X3 tyX3 tyX3_ok nmX3 hown hKK hok wkC hz 3 rfl rfl 1 (by decide) (hts _ (List.mem_of_getElem? (i := 1) rfl)) (fun _ h9 => h9) rfl rfl rfl rfl (Nat.le_of_ble_eq_true rfl) setCi_43 dX3_ends_7 (fun H locs hz => ?_)
  refine lv_iload_n hx hb dX3_ends_10 rfl (lv_at hl 0 rfl) ?_
  by_cases c1 : (σ 43 0) = (0 : Int32)
  · replace h := ite_t c1 h
    refine lv_tableIn (tgt := 44) (off := 33) hx hb dX3_ends_11 (by rw [c1]; decide) (by rw [c1]; decide) (by rw [c1]; rfl) (by decide) ?_
    refine lv_iload_n hx hb dX3_ends_44 rfl (lv_at hl 2 rfl) ?_
    refine lv_bipush (v := (49 : Int32)) hx hb dX3_ends_45 (by decide) ?_
    refine lv_icmp_lt (tgt := 75) hx hb dX3_ends_47 (by decide) (fun c2 => ?_) (fun c2 => ?_)
    · replace h := ite_t c2 h
      refine lv_iconst (v := (0 : Int32)) hx hb dX3_ends_75 (by decide) ?_
      exact rt (0 : Int32) (si σ 43 (-1 : Int32)) 76 _ _ _ dX3_ends_76 h hz (Or.inl rfl)
    · replace h := ite_f c2 h
      refine lv_iload_n hx hb dX3_ends_50 rfl (lv_at hl 2 rfl) ?_
      refine lv_bipush (v := (57 : Int32)) hx hb dX3_ends_51 (by decide) ?_
      refine lv_icmp_gt (tgt := 75) hx hb dX3_ends_53 (by decide) (fun c3 => ?_) (fun c3 => ?_)
      · replace h := ite_t c3 h
        refine lv_iconst (v := (0 : Int32)) hx hb dX3_ends_75 (by decide) ?_
        exact rt (0 : Int32) (si σ 43 (-1 : Int32)) 76 _ _ _ dX3_ends_76 h hz (Or.inl rfl)
      · replace h := ite_f c3 h
        refine lv_aload_n hx hb dX3_ends_56 rfl (lv_at hl 1 rfl) ?_
        refine va_get (v := .ref (a 4)) hx hb hts inX3_ends_X3 hown hKK.1 hz.1 3 rfl rfl 0 (by decide) (hts _ (List.mem_of_getElem? (i := 2) rfl)) (fun _ h9 => h9) rfl dX3_ends_57 ?_
        refine lv_iconst (v := (0 : Int32)) hx hb dX3_ends_60 (by decide) ?_
        refine lv_iload_n hx hb dX3_ends_61 rfl (lv_at hl 2 rfl) ?_
        refine lv_bipush (v := (48 : Int32)) hx hb dX3_ends_62 (by decide) ?_
        refine lv_isub hx hb dX3_ends_64 ?_
        obtain ⟨r4, s5, e6, h⟩ := bd2_e h
        refine zcallVi (As := [.int (0 : Int32), .int (x1 - (48 : Int32))]) (rest := []) CF hKK (KX0_add_r (dC := dC) (dI := dI) (cI := cI) (cZ := cZ) (a := a) hok e6) (cwV 2 hts gX3_ends_X0_add rfl rfl rfl cdX0_add ⟨Nat.le_of_ble_eq_true rfl, Nat.le_of_ble_eq_true rfl⟩) 4 0 rfl rfl hz rfl hl.1 rfl (Nat.le_of_ble_eq_true rfl) dX3_ends_65 ⟨Nat.le_refl _, Nat.le_refl _⟩ (fun H locs hz => ?_)
        refine lv_if_eq (tgt := 75) hx hb dX3_ends_68 (by decide) (fun c7 => ?_) (fun c7 => ?_)
        · replace h := ite_t c7 h
          refine lv_iconst (v := (0 : Int32)) hx hb dX3_ends_75 (by decide) ?_
          exact rt (0 : Int32) s5 76 _ _ _ dX3_ends_76 h hz (Or.inl rfl)
        · replace h := ite_f c7 h
          refine lv_iconst (v := (1 : Int32)) hx hb dX3_ends_71 (by decide) ?_
          refine lv_goto (tgt := 76) hx hb dX3_ends_72 (by decide) ?_
          exact rt (1 : Int32) s5 76 _ _ _ dX3_ends_76 h hz (Or.inr rfl)
  replace h := ite_f c1 h
  by_cases c8 : (σ 43 0) = (1 : Int32)
  · replace h := ite_t c8 h
    refine lv_tableIn (tgt := 77) (off := 66) hx hb dX3_ends_11 (by rw [c8]; decide) (by rw [c8]; decide) (by rw [c8]; rfl) (by decide) ?_
    refine lv_iload_n hx hb dX3_ends_77 rfl (lv_at hl 2 rfl) ?_
    refine lv_bipush (v := (48 : Int32)) hx hb dX3_ends_78 (by decide) ?_
    refine lv_icmp_lt (tgt := 108) hx hb dX3_ends_80 (by decide) (fun c9 => ?_) (fun c9 => ?_)
    · replace h := ite_t c9 h
      refine lv_iconst (v := (0 : Int32)) hx hb dX3_ends_108 (by decide) ?_
      exact rt (0 : Int32) (si σ 43 (-1 : Int32)) 109 _ _ _ dX3_ends_109 h hz (Or.inl rfl)
    · replace h := ite_f c9 h
      refine lv_iload_n hx hb dX3_ends_83 rfl (lv_at hl 2 rfl) ?_
      refine lv_bipush (v := (57 : Int32)) hx hb dX3_ends_84 (by decide) ?_
      refine lv_icmp_gt (tgt := 108) hx hb dX3_ends_86 (by decide) (fun c10 => ?_) (fun c10 => ?_)
      · replace h := ite_t c10 h
        refine lv_iconst (v := (0 : Int32)) hx hb dX3_ends_108 (by decide) ?_
        exact rt (0 : Int32) (si σ 43 (-1 : Int32)) 109 _ _ _ dX3_ends_109 h hz (Or.inl rfl)
      · replace h := ite_f c10 h
        refine lv_aload_n hx hb dX3_ends_89 rfl (lv_at hl 1 rfl) ?_
        refine va_get (v := .ref (a 4)) hx hb hts inX3_ends_X3 hown hKK.1 hz.1 3 rfl rfl 0 (by decide) (hts _ (List.mem_of_getElem? (i := 2) rfl)) (fun _ h9 => h9) rfl dX3_ends_90 ?_
        refine lv_iconst (v := (1 : Int32)) hx hb dX3_ends_93 (by decide) ?_
        refine lv_iload_n hx hb dX3_ends_94 rfl (lv_at hl 2 rfl) ?_
        refine lv_bipush (v := (48 : Int32)) hx hb dX3_ends_95 (by decide) ?_
        refine lv_isub hx hb dX3_ends_97 ?_
        obtain ⟨r11, s12, e13, h⟩ := bd2_e h
        refine zcallVi (As := [.int (1 : Int32), .int (x1 - (48 : Int32))]) (rest := []) CF hKK (KX0_add_r (dC := dC) (dI := dI) (cI := cI) (cZ := cZ) (a := a) hok e13) (cwV 2 hts gX3_ends_X0_add rfl rfl rfl cdX0_add ⟨Nat.le_of_ble_eq_true rfl, Nat.le_of_ble_eq_true rfl⟩) 4 0 rfl rfl hz rfl hl.1 rfl (Nat.le_of_ble_eq_true rfl) dX3_ends_98 ⟨Nat.le_refl _, Nat.le_refl _⟩ (fun H locs hz => ?_)
        refine lv_if_eq (tgt := 108) hx hb dX3_ends_101 (by decide) (fun c14 => ?_) (fun c14 => ?_)
        · replace h := ite_t c14 h
          refine lv_iconst (v := (0 : Int32)) hx hb dX3_ends_108 (by decide) ?_
          exact rt (0 : Int32) s12 109 _ _ _ dX3_ends_109 h hz (Or.inl rfl)
        · replace h := ite_f c14 h
          refine lv_iconst (v := (1 : Int32)) hx hb dX3_ends_104 (by decide) ?_
          refine lv_goto (tgt := 109) hx hb dX3_ends_105 (by decide) ?_
          exact rt (1 : Int32) s12 109 _ _ _ dX3_ends_109 h hz (Or.inr rfl)
  replace h := ite_f c8 h
  by_cases c15 : (σ 43 0) = (4 : Int32)
  · replace h := ite_t c15 h
    refine lv_tableIn (tgt := 110) (off := 99) hx hb dX3_ends_11 (by rw [c15]; decide) (by rw [c15]; decide) (by rw [c15]; rfl) (by decide) ?_
    refine lv_iload_n hx hb dX3_ends_110 rfl (lv_at hl 2 rfl) ?_
    refine lv_bipush (v := (49 : Int32)) hx hb dX3_ends_111 (by decide) ?_
    refine lv_icmp_lt (tgt := 143) hx hb dX3_ends_113 (by decide) (fun c16 => ?_) (fun c16 => ?_)
    · replace h := ite_t c16 h
      refine lv_iconst (v := (0 : Int32)) hx hb dX3_ends_143 (by decide) ?_
      exact rt (0 : Int32) (si σ 43 (-1 : Int32)) 144 _ _ _ dX3_ends_144 h hz (Or.inl rfl)
    · replace h := ite_f c16 h
      refine lv_iload_n hx hb dX3_ends_116 rfl (lv_at hl 2 rfl) ?_
      refine lv_bipush (v := (51 : Int32)) hx hb dX3_ends_117 (by decide) ?_
      refine lv_icmp_gt (tgt := 143) hx hb dX3_ends_119 (by decide) (fun c17 => ?_) (fun c17 => ?_)
      · replace h := ite_t c17 h
        refine lv_iconst (v := (0 : Int32)) hx hb dX3_ends_143 (by decide) ?_
        exact rt (0 : Int32) (si σ 43 (-1 : Int32)) 144 _ _ _ dX3_ends_144 h hz (Or.inl rfl)
      · replace h := ite_f c17 h
        refine lv_aload_n hx hb dX3_ends_122 rfl (lv_at hl 1 rfl) ?_
        refine va_get (v := .ref (a 4)) hx hb hts inX3_ends_X3 hown hKK.1 hz.1 3 rfl rfl 0 (by decide) (hts _ (List.mem_of_getElem? (i := 2) rfl)) (fun _ h9 => h9) rfl dX3_ends_123 ?_
        refine lv_iconst (v := (4 : Int32)) hx hb dX3_ends_126 (by decide) ?_
        refine lv_iconst (v := (1 : Int32)) hx hb dX3_ends_127 (by decide) ?_
        refine lv_iload_n hx hb dX3_ends_128 rfl (lv_at hl 2 rfl) ?_
        refine lv_bipush (v := (48 : Int32)) hx hb dX3_ends_129 (by decide) ?_
        refine lv_isub hx hb dX3_ends_131 ?_
        refine lv_ishl hx hb dX3_ends_132 ?_
        obtain ⟨r18, s19, e20, h⟩ := bd2_e h
        refine zcallVi (As := [.int (4 : Int32), .int ((1 : Int32) <<< ((x1 - (48 : Int32)) &&& 31))]) (rest := []) CF hKK (KX0_add_r (dC := dC) (dI := dI) (cI := cI) (cZ := cZ) (a := a) hok e20) (cwV 2 hts gX3_ends_X0_add rfl rfl rfl cdX0_add ⟨Nat.le_of_ble_eq_true rfl, Nat.le_of_ble_eq_true rfl⟩) 4 0 rfl rfl hz rfl hl.1 rfl (Nat.le_of_ble_eq_true rfl) dX3_ends_133 ⟨Nat.le_refl _, Nat.le_refl _⟩ (fun H locs hz => ?_)
        refine lv_if_eq (tgt := 143) hx hb dX3_ends_136 (by decide) (fun c21 => ?_) (fun c21 => ?_)
        · replace h := ite_t c21 h
          refine lv_iconst (v := (0 : Int32)) hx hb dX3_ends_143 (by decide) ?_
          exact rt (0 : Int32) s19 144 _ _ _ dX3_ends_144 h hz (Or.inl rfl)
        · replace h := ite_f c21 h
          refine lv_iconst (v := (1 : Int32)) hx hb dX3_ends_139 (by decide) ?_
          refine lv_goto (tgt := 144) hx hb dX3_ends_140 (by decide) ?_
          exact rt (1 : Int32) s19 144 _ _ _ dX3_ends_144 h hz (Or.inr rfl)
  replace h := ite_f c15 h
  by_cases c28 : (σ 43 0) = (2 : Int32)
  · refine lv_tableIn (tgt := 145) (off := 134) hx hb dX3_ends_11 (by rw [c28]; decide) (by rw [c28]; decide) (by rw [c28]; rfl) (by decide) ?_
    exact b145  (si σ 43 (-1 : Int32)) x1 (σ 43 0) _ _ _ h hz (lv_sub hl [1, 2, 0] rfl)
  by_cases c29 : (σ 43 0) = (3 : Int32)
  · refine lv_tableIn (tgt := 145) (off := 134) hx hb dX3_ends_11 (by rw [c29]; decide) (by rw [c29]; decide) (by rw [c29]; rfl) (by decide) ?_
    exact b145  (si σ 43 (-1 : Int32)) x1 (σ 43 0) _ _ _ h hz (lv_sub hl [1, 2, 0] rfl)
  refine lv_tableOut (tgt := 145) hx hb dX3_ends_11 (by have := lv_neT c1 (a := 0) rfl; have := lv_neT c8 (a := 1) rfl; have := lv_neT c15 (a := 4) rfl; have := lv_neT c28 (a := 2) rfl; have := lv_neT c29 (a := 3) rfl; omega) (by decide) ?_
  exact b145  (si σ 43 (-1 : Int32)) x1 (σ 43 0) _ _ _ h hz (lv_sub hl [1, 2, 0] rfl)
def fX3_read_b59 (k24 : St → Int32 → Option (Int32 × St)) (σ : St) (y2 : Int32) (t0 : Int32) : Option (Int32 × St) :=
  (if t0 = 0 then (some (y2, σ)) else (k24 σ (y2 + (1 : Int32))))
def fX3_read_s24 (k24 : St → Int32 → Option (Int32 × St)) (σ : St) (y2 : Int32) : Option (Int32 × St) :=
  (bd1 (fX1_length σ ) fun r4 => (if r4 ≤ y2 then ((bd1 (fX1_length σ ) fun r8 => some (r8, σ))) else ((bd1 (fX1_letterAt σ y2) fun r11 => (if (σ 43 0) = (-1 : Int32) then ((bd2 (fX3_begins σ r11) fun r19 s20 => fX3_read_b59 k24 s20 y2 r19)) else ((bd2 (fX3_ends σ r11) fun r15 s16 => fX3_read_b59 k24 s16 y2 r15)))))))
def fX3_read_l24  : Nat → St → Int32 → Option (Int32 × St) :=
  itr (fX3_read_s24 ) (fun _ _ => none)
def fX3_read (σ : St)  : Option (Int32 × St) :=
  (bd1 (fX0_clear_r σ ) fun s2 => fX3_read_l24  FU (si (si (si s2 43 (-1 : Int32)) 44 (0 : Int32)) 45 (0 : Int32)) (0 : Int32))
abbrev rmX3_read : Room := { frames := 3, cells := 0, slots := 0, locals := 67 }
set_option maxHeartbeats 4000000 in
set_option maxRecDepth 100000 in
theorem KX3_read {l : Launch} {dC : Nat → ClassId} {dI : Nat → Nat → Nat} {cI cZ : ClassId} {a : Nat → Nat} {σ : St}  {r : Int32} {σ2 : St} (hok : okA 30 a) (h : fX3_read σ  = some (r, σ2)) (sz : Nat) : Met l yX3_read wsX3_read rmX3_read (Pz (dC, dI) cI cZ (wdC cI cZ a σ) sz [.ref (a 3), .ref (a 1)]) (Qzi (dC, dI) 30 a (wdC cI cZ a σ2) sz r) 0 0 (aN 30 a sz) := by
  refine Met.ofW (cc := cX3_read) (maxL := 5) (ret := (some .int)) (by decide) rfl ?_
  intro p e s m args below meth c s₁ B hml hv
  obtain ⟨hav, hsz, hP, hKK⟩ := hv
  have hx := B.exec
  have hb := B.bytes
  have hr := B.returns
  have hts := atoms_spec (ws := wsX3_read) B.pre
  have hown : s.vm.findClass RX3 = some m.cls := findClass_of_methodNamed B.named
  have hlocks := B.notSynchronized
  have CF : CallFix p m c cX3_read 5 s args wsX3_read RX3 := ⟨hx, hb, hml, hown, hts⟩
  have hz : zz (dC, dI) 30 a (wdC cI cZ a σ) s.heap s.heap [] := ⟨hP, va_S.rf⟩
  have hl := lv_entry [.ref (a 3), .ref (a 1)] (n := 5) (Nat.le_of_ble_eq_true rfl)
  have hen : entryFrame m args 5 = entryFrame m ([.ref (a 3), .ref (a 1)] : List Value).toArray 5 := by rw [hav]
  rw [hen, lg_entry_eq]
  generalize (lg_sl [.ref (a 3), .ref (a 1)] ++ List.replicate (5 - (lg_sl [.ref (a 3), .ref (a 1)]).length) Slot.unset).toArray = ls at hl ⊢
  have hl : lv_has ls 5 [(0, .ref (a 3)), (1, .ref (a 1))] := hl
  have eR : (headSpec wsX3_read rmX3_read).room = rmX3_read := rfl
  rw [eR]
  have rt : ∀ (v : Int32) (t : St) (pc : Nat) (H : Heap) (locs : List Loc) (ls : Array Slot), decode cX3_read pc = .ok (.ireturn, 1) → some (v, t) = some (r, σ2) → zz (dC, dI) 30 a (wdC cI cZ a t) s.heap H locs → W p l e rmX3_read s m args below meth c H locs 0 0 (MQ below (Qzi (dC, dI) 30 a (wdC cI cZ a σ2) sz r) args s 0 0 (aN 30 a sz)) (F0 m pc ls [.int v]) := by
    intro v t pc H locs ls hd h hz
    cases h
    exact ziret hsz hx hb hr hlocks hz hd
  generalize (MQ below (Qzi (dC, dI) 30 a (wdC cI cZ a σ2) sz r) args s 0 0 (aN 30 a sz)) = Q at rt ⊢
  have b59 : ∀ (k24 : St → Int32 → Option (Int32 × St)) (hk24 : (∀ (σ : St) (y2 : Int32) (H : Heap) (locs : List Loc) (ls : Array Slot), k24 σ y2 = some (r, σ2) → zz (dC, dI) 30 a (wdC cI cZ a σ) s.heap H locs → lv_has ls 5 [(0, .ref (a 3)), (1, .ref (a 1)), (2, .int y2)] → W p l e rmX3_read s m args below meth c H locs 0 0 Q (F0 m 24 ls []))) (σ : St) (y2 : Int32) (t0 : Int32) (H : Heap) (locs : List Loc) (ls : Array Slot), fX3_read_b59 k24 σ y2 t0 = some (r, σ2) → zz (dC, dI) 30 a (wdC cI cZ a σ) s.heap H locs → lv_has ls 5 [(0, .ref (a 3)), (1, .ref (a 1)), (2, .int y2)] → W p l e rmX3_read s m args below meth c H locs 0 0 Q (F0 m 59 ls [.int t0]) := by
    intro k24 hk24 σ y2 t0 H locs ls h hz hl
    unfold fX3_read_b59 at h
    refine lv_istore (lv' := [(4, .int t0), (0, .ref (a 3)), (1, .ref (a 1)), (2, .int y2)]) hx hb dX3_read_59 hl (by decide) rfl (fun ls hl => ?_)
    refine lv_iload hx hb dX3_read_61 (lv_at hl 0 rfl) ?_
    refine lv_if_ne (tgt := 68) hx hb dX3_read_63 (by decide) (fun c18 => ?_) (fun c18 => ?_)
    · replace h := ite_f c18 h
      refine lv_iinc (v := (y2 + (1 : Int32))) (lv' := [(2, .int (y2 + (1 : Int32))), (4, .int t0), (0, .ref (a 3)), (1, .ref (a 1))]) hx hb dX3_read_68 hl (k := 3) rfl rfl (by decide) rfl (fun ls hl => ?_)
      refine lv_goto (tgt := 24) hx hb dX3_read_71 (by decide) ?_
      exact hk24 σ (y2 + (1 : Int32)) _ _ _ h hz (lv_sub hl [2, 3, 0] rfl)
    · replace h := ite_t c18 h
      refine lv_iload_n hx hb dX3_read_66 rfl (lv_at hl 3 rfl) ?_
      exact rt y2 σ 67 _ _ _ dX3_read_67 h hz
  have s24 : ∀ (k24 : St → Int32 → Option (Int32 × St)) (hk24 : (∀ (σ : St) (y2 : Int32) (H : Heap) (locs : List Loc) (ls : Array Slot), k24 σ y2 = some (r, σ2) → zz (dC, dI) 30 a (wdC cI cZ a σ) s.heap H locs → lv_has ls 5 [(0, .ref (a 3)), (1, .ref (a 1)), (2, .int y2)] → W p l e rmX3_read s m args below meth c H locs 0 0 Q (F0 m 24 ls []))) (σ : St) (y2 : Int32) (H : Heap) (locs : List Loc) (ls : Array Slot), fX3_read_s24 k24 σ y2 = some (r, σ2) → zz (dC, dI) 30 a (wdC cI cZ a σ) s.heap H locs → lv_has ls 5 [(0, .ref (a 3)), (1, .ref (a 1)), (2, .int y2)] → W p l e rmX3_read s m args below meth c H locs 0 0 Q (F0 m 24 ls []) := by
    intro k24 hk24 σ y2 H locs ls h hz hl
    unfold fX3_read_s24 at h
    refine lv_iload_n hx hb dX3_read_24 rfl (lv_at hl 2 rfl) ?_
    refine lv_aload_n hx hb dX3_read_25 rfl (lv_at hl 1 rfl) ?_
    obtain ⟨r4, e6, h⟩ := bd1_e h
    refine zcallVi (As := []) (rest := [.int y2]) CF hKK (KX1_length (dC := dC) (dI := dI) (cI := cI) (cZ := cZ) (a := a) hok e6) (cwV 0 hts gX3_read_X1_length rfl rfl rfl cdX1_length ⟨Nat.le_of_ble_eq_true rfl, Nat.le_of_ble_eq_true rfl⟩) 1 1 rfl rfl hz rfl hl.1 rfl (Nat.le_of_ble_eq_true rfl) dX3_read_26 ⟨Nat.le_refl _, Nat.le_refl _⟩ (fun H locs hz => ?_)
    refine lv_icmp_ge (tgt := 74) hx hb dX3_read_29 (by decide) (fun c7 => ?_) (fun c7 => ?_)
    · replace h := ite_t c7 h
      refine lv_aload_n hx hb dX3_read_74 rfl (lv_at hl 1 rfl) ?_
      obtain ⟨r8, e10, h⟩ := bd1_e h
      refine zcallVi (As := []) (rest := []) CF hKK (KX1_length (dC := dC) (dI := dI) (cI := cI) (cZ := cZ) (a := a) hok e10) (cwV 0 hts gX3_read_X1_length rfl rfl rfl cdX1_length ⟨Nat.le_of_ble_eq_true rfl, Nat.le_of_ble_eq_true rfl⟩) 1 1 rfl rfl hz rfl hl.1 rfl (Nat.le_of_ble_eq_true rfl) dX3_read_75 ⟨Nat.le_refl _, Nat.le_refl _⟩ (fun H locs hz => ?_)
      exact rt r8 σ 78 _ _ _ dX3_read_78 h hz
    · replace h := ite_f c7 h
      refine lv_aload_n hx hb dX3_read_32 rfl (lv_at hl 1 rfl) ?_
      refine lv_iload_n hx hb dX3_read_33 rfl (lv_at hl 2 rfl) ?_
      obtain ⟨r11, e13, h⟩ := bd1_e h
      refine zcallVi (As := [.int y2]) (rest := []) CF hKK (KX1_letterAt (dC := dC) (dI := dI) (cI := cI) (cZ := cZ) (a := a) hok e13) (cwV 1 hts gX3_read_X1_letterAt rfl rfl rfl cdX1_letterAt ⟨Nat.le_of_ble_eq_true rfl, Nat.le_of_ble_eq_true rfl⟩) 1 1 rfl rfl hz rfl hl.1 rfl (Nat.le_of_ble_eq_true rfl) dX3_read_34 ⟨Nat.le_refl _, Nat.le_refl _⟩ (fun H locs hz => ?_)
      refine lv_istore_n (lv' := [(3, .int r11), (0, .ref (a 3)), (1, .ref (a 1)), (2, .int y2)]) hx hb dX3_read_37 rfl hl (by decide) rfl (fun ls hl => ?_)
      refine lv_aload_n hx hb dX3_read_38 rfl (lv_at hl 1 rfl) ?_
      refine va_get (v := .int (σ 43 0)) hx hb hts inX3_read_X3 hown hKK.1 hz.1 3 rfl rfl 1 (by decide) (hts _ (List.mem_of_getElem? (i := 2) rfl)) (fun _ h9 => h9) rfl dX3_read_39 ?_
      refine lv_iconst (v := (-1 : Int32)) hx hb dX3_read_42 (by decide) ?_
      refine lv_icmp_ne (tgt := 54) hx hb dX3_read_43 (by decide) (fun c14 => ?_) (fun c14 => ?_)
      · replace h := ite_f c14 h
        refine lv_aload_n hx hb dX3_read_54 rfl (lv_at hl 1 rfl) ?_
        refine lv_iload_n hx hb dX3_read_55 rfl (lv_at hl 0 rfl) ?_
        obtain ⟨r15, s16, e17, h⟩ := bd2_e h
        refine zcallVi (As := [.int r11]) (rest := []) CF hKK (KX3_ends (dC := dC) (dI := dI) (cI := cI) (cZ := cZ) (a := a) hok e17) (cwV 1 hts gX3_read_X3_ends rfl rfl rfl cdX3_ends ⟨Nat.le_of_ble_eq_true rfl, Nat.le_of_ble_eq_true rfl⟩) 3 3 rfl rfl hz rfl hl.1 rfl (Nat.le_of_ble_eq_true rfl) dX3_read_56 ⟨Nat.le_refl _, Nat.le_refl _⟩ (fun H locs hz => ?_)
        exact b59 k24 hk24 s16 y2 r15 _ _ _ h hz (lv_sub hl [1, 2, 3] rfl)
      · replace h := ite_t c14 h
        refine lv_aload_n hx hb dX3_read_46 rfl (lv_at hl 1 rfl) ?_
        refine lv_iload_n hx hb dX3_read_47 rfl (lv_at hl 0 rfl) ?_
        obtain ⟨r19, s20, e21, h⟩ := bd2_e h
        refine zcallVi (As := [.int r11]) (rest := []) CF hKK (KX3_begins (dC := dC) (dI := dI) (cI := cI) (cZ := cZ) (a := a) hok e21) (cwV 1 hts gX3_read_X3_begins rfl rfl rfl cdX3_begins ⟨Nat.le_of_ble_eq_true rfl, Nat.le_of_ble_eq_true rfl⟩) 3 3 rfl rfl hz rfl hl.1 rfl (Nat.le_of_ble_eq_true rfl) dX3_read_48 ⟨Nat.le_refl _, Nat.le_refl _⟩ (fun H locs hz => ?_)
        refine lv_goto (tgt := 59) hx hb dX3_read_51 (by decide) ?_
        exact b59 k24 hk24 s20 y2 r19 _ _ _ h hz (lv_sub hl [1, 2, 3] rfl)
  have l24 : ∀  (n : Nat), ∀ (σ : St) (y2 : Int32) (H : Heap) (locs : List Loc) (ls : Array Slot), fX3_read_l24  n σ y2 = some (r, σ2) → zz (dC, dI) 30 a (wdC cI cZ a σ) s.heap H locs → lv_has ls 5 [(0, .ref (a 3)), (1, .ref (a 1)), (2, .int y2)] → W p l e rmX3_read s m args below meth c H locs 0 0 Q (F0 m 24 ls []) := by
    intro  n
    induction n with
    | zero => intro σ y2 H locs ls h; exact nomatch h
    | succ n ih => exact s24  (fX3_read_l24  n) ih
  unfold fX3_read at h
  refine lv_aload_n hx hb dX3_read_0 rfl (lv_at hl 0 rfl) ?_
  refine va_get (v := .ref (a 4)) hx hb hts inX3_read_X3 hown hKK.1 hz.1 3 rfl rfl 0 (by decide) (hts _ (List.mem_of_getElem? (i := 1) rfl)) (fun _ h9 => h9) rfl dX3_read_1 ?_
  obtain ⟨s2, e3, h⟩ := bd1_e h
  refine zcallVv (As := []) (rest := []) CF hKK (KX0_clear_r (dC := dC) (dI := dI) (cI := cI) (cZ := cZ) (a := a) hok e3) (cwV 0 hts gX3_read_X0_clear rfl rfl rfl cdX0_clear ⟨Nat.le_of_ble_eq_true rfl, Nat.le_of_ble_eq_true rfl⟩) 4 0 rfl rfl hz rfl hl.1 rfl (Nat.le_of_ble_eq_true rfl) dX3_read_4 ⟨Nat.le_refl _, Nat.le_refl _⟩ (fun H locs hz => ?_)
  refine lv_aload_n hx hb dX3_read_7 rfl (lv_at hl 0 rfl) ?_
  refine lv_iconst (v := (-1 : Int32)) hx hb dX3_read_8 (by decide) ?_
  refine zput (ty := .int) (w' := wdC cI cZ a (si s2 43 (-1 : Int32))) hx hb hts inX3_read_X3 tyX3 tyX3_ok nmX3 hown hKK hok wkC hz 3 rfl rfl 1 (by decide) (hts _ (List.mem_of_getElem? (i := 2) rfl)) (fun _ h9 => h9) rfl rfl rfl rfl (Nat.le_of_ble_eq_true rfl) setCi_43 dX3_read_9 (fun H locs hz => ?_)
  refine lv_aload_n hx hb dX3_read_12 rfl (lv_at hl 0 rfl) ?_
  refine lv_iconst (v := (0 : Int32)) hx hb dX3_read_13 (by decide) ?_
  refine zput (ty := .int) (w' := wdC cI cZ a (si (si s2 43 (-1 : Int32)) 44 (0 : Int32))) hx hb hts inX3_read_X3 tyX3 tyX3_ok nmX3 hown hKK hok wkC hz 3 rfl rfl 2 (by decide) (hts _ (List.mem_of_getElem? (i := 3) rfl)) (fun _ h9 => h9) rfl rfl rfl rfl (Nat.le_of_ble_eq_true rfl) setCi_44 dX3_read_14 (fun H locs hz => ?_)
  refine lv_aload_n hx hb dX3_read_17 rfl (lv_at hl 0 rfl) ?_
  refine lv_iconst (v := (0 : Int32)) hx hb dX3_read_18 (by decide) ?_
  refine zput (ty := .int) (w' := wdC cI cZ a (si (si (si s2 43 (-1 : Int32)) 44 (0 : Int32)) 45 (0 : Int32))) hx hb hts inX3_read_X3 tyX3 tyX3_ok nmX3 hown hKK hok wkC hz 3 rfl rfl 3 (by decide) (hts _ (List.mem_of_getElem? (i := 4) rfl)) (fun _ h9 => h9) rfl rfl rfl rfl (Nat.le_of_ble_eq_true rfl) setCi_45 dX3_read_19 (fun H locs hz => ?_)
  refine lv_iconst (v := (0 : Int32)) hx hb dX3_read_22 (by decide) ?_
  refine lv_istore_n (lv' := [(2, .int (0 : Int32)), (0, .ref (a 3)), (1, .ref (a 1))]) hx hb dX3_read_23 rfl hl (by decide) rfl (fun ls hl => ?_)
  exact l24  FU (si (si (si s2 43 (-1 : Int32)) 44 (0 : Int32)) 45 (0 : Int32)) (0 : Int32) _ _ _ h hz (lv_sub hl [1, 2, 0] rfl)
def fX3_isWhole (σ : St)  : Option (Int32) :=
  (bd1 (fX0_size_r σ ) fun r1 => (if r1 ≤ 0 then (some (0 : Int32)) else ((if (σ 43 0) = (-1 : Int32) then ((if ((σ 45 0) &&& ((σ 44 0) ^^^ (-1 : Int32))) = 0 then (some (1 : Int32)) else (some (0 : Int32)))) else (some (0 : Int32))))))
abbrev rmX3_isWhole : Room := { frames := 1, cells := 0, slots := 0, locals := 20 }
set_option maxHeartbeats 4000000 in
set_option maxRecDepth 100000 in
theorem KX3_isWhole {l : Launch} {dC : Nat → ClassId} {dI : Nat → Nat → Nat} {cI cZ : ClassId} {a : Nat → Nat} {σ : St}  {r : Int32} (hok : okA 30 a) (h : fX3_isWhole σ  = some r) (sz : Nat) : Met l yX3_isWhole wsX3_isWhole rmX3_isWhole (Pz (dC, dI) cI cZ (wdC cI cZ a σ) sz [.ref (a 3)]) (Qzi (dC, dI) 30 a (wdC cI cZ a σ) sz r) 0 0 (aN 30 a sz) := by
  refine Met.ofW (cc := cX3_isWhole) (maxL := 1) (ret := (some .boolean)) (by decide) rfl ?_
  intro p e s m args below meth c s₁ B hml hv
  obtain ⟨hav, hsz, hP, hKK⟩ := hv
  have hx := B.exec
  have hb := B.bytes
  have hr := B.returns
  have hts := atoms_spec (ws := wsX3_isWhole) B.pre
  have hown : s.vm.findClass RX3 = some m.cls := findClass_of_methodNamed B.named
  have hlocks := B.notSynchronized
  have CF : CallFix p m c cX3_isWhole 1 s args wsX3_isWhole RX3 := ⟨hx, hb, hml, hown, hts⟩
  have hz : zz (dC, dI) 30 a (wdC cI cZ a σ) s.heap s.heap [] := ⟨hP, va_S.rf⟩
  have hl := lv_entry [.ref (a 3)] (n := 1) (Nat.le_of_ble_eq_true rfl)
  have hen : entryFrame m args 1 = entryFrame m ([.ref (a 3)] : List Value).toArray 1 := by rw [hav]
  rw [hen, lg_entry_eq]
  generalize (lg_sl [.ref (a 3)] ++ List.replicate (1 - (lg_sl [.ref (a 3)]).length) Slot.unset).toArray = ls at hl ⊢
  have hl : lv_has ls 1 [(0, .ref (a 3))] := hl
  have eR : (headSpec wsX3_isWhole rmX3_isWhole).room = rmX3_isWhole := rfl
  rw [eR]
  have rt : ∀ (v : Int32) (t : St) (pc : Nat) (H : Heap) (locs : List Loc) (ls : Array Slot), decode cX3_isWhole pc = .ok (.ireturn, 1) → some v = some r → zz (dC, dI) 30 a (wdC cI cZ a σ) s.heap H locs → (v = 0 ∨ v = 1) → W p l e rmX3_isWhole s m args below meth c H locs 0 0 (MQ below (Qzi (dC, dI) 30 a (wdC cI cZ a σ) sz r) args s 0 0 (aN 30 a sz)) (F0 m pc ls [.int v]) := by
    intro v t pc H locs ls hd h hz hv
    cases h
    exact zzret hsz hx hb hr hlocks hv hz hd
  generalize (MQ below (Qzi (dC, dI) 30 a (wdC cI cZ a σ) sz r) args s 0 0 (aN 30 a sz)) = Q at rt ⊢
  unfold fX3_isWhole at h
  refine lv_aload_n hx hb dX3_isWhole_0 rfl (lv_at hl 0 rfl) ?_
  refine va_get (v := .ref (a 4)) hx hb hts inX3_isWhole_X3 hown hKK.1 hz.1 3 rfl rfl 0 (by decide) (hts _ (List.mem_of_getElem? (i := 1) rfl)) (fun _ h9 => h9) rfl dX3_isWhole_1 ?_
  obtain ⟨r1, e3, h⟩ := bd1_e h
  refine zcallVi (As := []) (rest := []) CF hKK (KX0_size_r (dC := dC) (dI := dI) (cI := cI) (cZ := cZ) (a := a) hok e3) (cwV 0 hts gX3_isWhole_X0_size rfl rfl rfl cdX0_size ⟨Nat.le_of_ble_eq_true rfl, Nat.le_of_ble_eq_true rfl⟩) 4 0 rfl rfl hz rfl hl.1 rfl (Nat.le_of_ble_eq_true rfl) dX3_isWhole_4 ⟨Nat.le_refl _, Nat.le_refl _⟩ (fun H locs hz => ?_)
  refine lv_if_le (tgt := 36) hx hb dX3_isWhole_7 (by decide) (fun c4 => ?_) (fun c4 => ?_)
  · replace h := ite_t c4 h
    refine lv_iconst (v := (0 : Int32)) hx hb dX3_isWhole_36 (by decide) ?_
    exact rt (0 : Int32) σ 37 _ _ _ dX3_isWhole_37 h hz (Or.inl rfl)
  · replace h := ite_f c4 h
    refine lv_aload_n hx hb dX3_isWhole_10 rfl (lv_at hl 0 rfl) ?_
    refine va_get (v := .int (σ 43 0)) hx hb hts inX3_isWhole_X3 hown hKK.1 hz.1 3 rfl rfl 1 (by decide) (hts _ (List.mem_of_getElem? (i := 2) rfl)) (fun _ h9 => h9) rfl dX3_isWhole_11 ?_
    refine lv_iconst (v := (-1 : Int32)) hx hb dX3_isWhole_14 (by decide) ?_
    refine lv_icmp_ne (tgt := 36) hx hb dX3_isWhole_15 (by decide) (fun c5 => ?_) (fun c5 => ?_)
    · replace h := ite_f c5 h
      refine lv_iconst (v := (0 : Int32)) hx hb dX3_isWhole_36 (by decide) ?_
      exact rt (0 : Int32) σ 37 _ _ _ dX3_isWhole_37 h hz (Or.inl rfl)
    · replace h := ite_t c5 h
      refine lv_aload_n hx hb dX3_isWhole_18 rfl (lv_at hl 0 rfl) ?_
      refine va_get (v := .int (σ 45 0)) hx hb hts inX3_isWhole_X3 hown hKK.1 hz.1 3 rfl rfl 3 (by decide) (hts _ (List.mem_of_getElem? (i := 3) rfl)) (fun _ h9 => h9) rfl dX3_isWhole_19 ?_
      refine lv_aload_n hx hb dX3_isWhole_22 rfl (lv_at hl 0 rfl) ?_
      refine va_get (v := .int (σ 44 0)) hx hb hts inX3_isWhole_X3 hown hKK.1 hz.1 3 rfl rfl 2 (by decide) (hts _ (List.mem_of_getElem? (i := 4) rfl)) (fun _ h9 => h9) rfl dX3_isWhole_23 ?_
      refine lv_iconst (v := (-1 : Int32)) hx hb dX3_isWhole_26 (by decide) ?_
      refine lv_ixor hx hb dX3_isWhole_27 ?_
      refine lv_iand hx hb dX3_isWhole_28 ?_
      refine lv_if_ne (tgt := 36) hx hb dX3_isWhole_29 (by decide) (fun c6 => ?_) (fun c6 => ?_)
      · replace h := ite_f c6 h
        refine lv_iconst (v := (0 : Int32)) hx hb dX3_isWhole_36 (by decide) ?_
        exact rt (0 : Int32) σ 37 _ _ _ dX3_isWhole_37 h hz (Or.inl rfl)
      · replace h := ite_t c6 h
        refine lv_iconst (v := (1 : Int32)) hx hb dX3_isWhole_32 (by decide) ?_
        refine lv_goto (tgt := 37) hx hb dX3_isWhole_33 (by decide) ?_
        exact rt (1 : Int32) σ 37 _ _ _ dX3_isWhole_37 h hz (Or.inr rfl)
def fX4_returnOf_i (σ : St) (x1 : Int32) : Option (Int32) :=
  (bd1 (fX4_has_i σ x1) fun r1 => (if r1 = 0 then (some (-1 : Int32)) else ((ck (¬ (x1 < 0 ∨ 12 ≤ Int32.toNatClampNeg x1)) <| some ((σ 14) (Int32.toNatClampNeg x1))))))
abbrev rmX4_returnOf_i : Room := { frames := 1, cells := 0, slots := 0, locals := 21 }
set_option maxHeartbeats 4000000 in
set_option maxRecDepth 100000 in
theorem KX4_returnOf_i {l : Launch} {dC : Nat → ClassId} {dI : Nat → Nat → Nat} {cI cZ : ClassId} {a : Nat → Nat} {σ : St} {x1 : Int32} {r : Int32} (hok : okA 30 a) (h : fX4_returnOf_i σ x1 = some r) (sz : Nat) : Met l yX4_returnOf wsX4_returnOf rmX4_returnOf_i (Pz (dC, dI) cI cZ (wdC cI cZ a σ) sz [.ref (a 12), .int x1]) (Qzi (dC, dI) 30 a (wdC cI cZ a σ) sz r) 0 0 (aN 30 a sz) := by
  refine Met.ofW (cc := cX4_returnOf) (maxL := 2) (ret := (some .int)) (by decide) rfl ?_
  intro p e s m args below meth c s₁ B hml hv
  obtain ⟨hav, hsz, hP, hKK⟩ := hv
  have hx := B.exec
  have hb := B.bytes
  have hr := B.returns
  have hts := atoms_spec (ws := wsX4_returnOf) B.pre
  have hown : s.vm.findClass RX4 = some m.cls := findClass_of_methodNamed B.named
  have hlocks := B.notSynchronized
  have CF : CallFix p m c cX4_returnOf 2 s args wsX4_returnOf RX4 := ⟨hx, hb, hml, hown, hts⟩
  have hz : zz (dC, dI) 30 a (wdC cI cZ a σ) s.heap s.heap [] := ⟨hP, va_S.rf⟩
  have hl := lv_entry [.ref (a 12), .int x1] (n := 2) (Nat.le_of_ble_eq_true rfl)
  have hen : entryFrame m args 2 = entryFrame m ([.ref (a 12), .int x1] : List Value).toArray 2 := by rw [hav]
  rw [hen, lg_entry_eq]
  generalize (lg_sl [.ref (a 12), .int x1] ++ List.replicate (2 - (lg_sl [.ref (a 12), .int x1]).length) Slot.unset).toArray = ls at hl ⊢
  have hl : lv_has ls 2 [(0, .ref (a 12)), (1, .int x1)] := hl
  have eR : (headSpec wsX4_returnOf rmX4_returnOf_i).room = rmX4_returnOf_i := rfl
  rw [eR]
  have rt : ∀ (v : Int32) (t : St) (pc : Nat) (H : Heap) (locs : List Loc) (ls : Array Slot), decode cX4_returnOf pc = .ok (.ireturn, 1) → some v = some r → zz (dC, dI) 30 a (wdC cI cZ a σ) s.heap H locs → W p l e rmX4_returnOf_i s m args below meth c H locs 0 0 (MQ below (Qzi (dC, dI) 30 a (wdC cI cZ a σ) sz r) args s 0 0 (aN 30 a sz)) (F0 m pc ls [.int v]) := by
    intro v t pc H locs ls hd h hz
    cases h
    exact ziret hsz hx hb hr hlocks hz hd
  generalize (MQ below (Qzi (dC, dI) 30 a (wdC cI cZ a σ) sz r) args s 0 0 (aN 30 a sz)) = Q at rt ⊢
  unfold fX4_returnOf_i at h
  refine lv_aload_n hx hb dX4_returnOf_0 rfl (lv_at hl 0 rfl) ?_
  refine lv_iload_n hx hb dX4_returnOf_1 rfl (lv_at hl 1 rfl) ?_
  obtain ⟨r1, e3, h⟩ := bd1_e h
  refine zcallVi (As := [.int x1]) (rest := []) CF hKK (KX4_has_i (dC := dC) (dI := dI) (cI := cI) (cZ := cZ) (a := a) hok e3) (cwV 1 hts gX4_returnOf_X4_has rfl rfl rfl cdX4_has ⟨Nat.le_of_ble_eq_true rfl, Nat.le_of_ble_eq_true rfl⟩) 12 4 rfl rfl hz rfl hl.1 rfl (Nat.le_of_ble_eq_true rfl) dX4_returnOf_2 ⟨Nat.le_refl _, Nat.le_refl _⟩ (fun H locs hz => ?_)
  refine lv_if_eq (tgt := 17) hx hb dX4_returnOf_5 (by decide) (fun c4 => ?_) (fun c4 => ?_)
  · replace h := ite_t c4 h
    refine lv_iconst (v := (-1 : Int32)) hx hb dX4_returnOf_17 (by decide) ?_
    exact rt (-1 : Int32) σ 18 _ _ _ dX4_returnOf_18 h hz
  · replace h := ite_f c4 h
    refine lv_aload_n hx hb dX4_returnOf_8 rfl (lv_at hl 0 rfl) ?_
    refine va_get (v := .ref (a 14)) hx hb hts inX4_returnOf_X4 hown hKK.1 hz.1 12 rfl rfl 1 (by decide) (hts _ (List.mem_of_getElem? (i := 1) rfl)) (fun _ h9 => h9) rfl dX4_returnOf_9 ?_
    refine lv_iload_n hx hb dX4_returnOf_12 rfl (lv_at hl 1 rfl) ?_
    obtain ⟨c5, h⟩ := ck_e h
    refine va_iald (f := (σ 14)) hx hb hKK.1 hz.1 14 0 rfl rfl c5 dX4_returnOf_13 ?_
    refine lv_goto (tgt := 18) hx hb dX4_returnOf_14 (by decide) ?_
    exact rt ((σ 14) (Int32.toNatClampNeg x1)) σ 18 _ _ _ dX4_returnOf_18 h hz
def fX4_returnOf_c (σ : St) (x1 : Int32) : Option (Int32) :=
  (bd1 (fX4_has_c σ x1) fun r1 => (if r1 = 0 then (some (-1 : Int32)) else ((ck (¬ (x1 < 0 ∨ 16 ≤ Int32.toNatClampNeg x1)) <| some ((σ 20) (Int32.toNatClampNeg x1))))))
abbrev rmX4_returnOf_c : Room := { frames := 1, cells := 0, slots := 0, locals := 21 }
set_option maxHeartbeats 4000000 in
set_option maxRecDepth 100000 in
theorem KX4_returnOf_c {l : Launch} {dC : Nat → ClassId} {dI : Nat → Nat → Nat} {cI cZ : ClassId} {a : Nat → Nat} {σ : St} {x1 : Int32} {r : Int32} (hok : okA 30 a) (h : fX4_returnOf_c σ x1 = some r) (sz : Nat) : Met l yX4_returnOf wsX4_returnOf rmX4_returnOf_c (Pz (dC, dI) cI cZ (wdC cI cZ a σ) sz [.ref (a 18), .int x1]) (Qzi (dC, dI) 30 a (wdC cI cZ a σ) sz r) 0 0 (aN 30 a sz) := by
  refine Met.ofW (cc := cX4_returnOf) (maxL := 2) (ret := (some .int)) (by decide) rfl ?_
  intro p e s m args below meth c s₁ B hml hv
  obtain ⟨hav, hsz, hP, hKK⟩ := hv
  have hx := B.exec
  have hb := B.bytes
  have hr := B.returns
  have hts := atoms_spec (ws := wsX4_returnOf) B.pre
  have hown : s.vm.findClass RX4 = some m.cls := findClass_of_methodNamed B.named
  have hlocks := B.notSynchronized
  have CF : CallFix p m c cX4_returnOf 2 s args wsX4_returnOf RX4 := ⟨hx, hb, hml, hown, hts⟩
  have hz : zz (dC, dI) 30 a (wdC cI cZ a σ) s.heap s.heap [] := ⟨hP, va_S.rf⟩
  have hl := lv_entry [.ref (a 18), .int x1] (n := 2) (Nat.le_of_ble_eq_true rfl)
  have hen : entryFrame m args 2 = entryFrame m ([.ref (a 18), .int x1] : List Value).toArray 2 := by rw [hav]
  rw [hen, lg_entry_eq]
  generalize (lg_sl [.ref (a 18), .int x1] ++ List.replicate (2 - (lg_sl [.ref (a 18), .int x1]).length) Slot.unset).toArray = ls at hl ⊢
  have hl : lv_has ls 2 [(0, .ref (a 18)), (1, .int x1)] := hl
  have eR : (headSpec wsX4_returnOf rmX4_returnOf_c).room = rmX4_returnOf_c := rfl
  rw [eR]
  have rt : ∀ (v : Int32) (t : St) (pc : Nat) (H : Heap) (locs : List Loc) (ls : Array Slot), decode cX4_returnOf pc = .ok (.ireturn, 1) → some v = some r → zz (dC, dI) 30 a (wdC cI cZ a σ) s.heap H locs → W p l e rmX4_returnOf_c s m args below meth c H locs 0 0 (MQ below (Qzi (dC, dI) 30 a (wdC cI cZ a σ) sz r) args s 0 0 (aN 30 a sz)) (F0 m pc ls [.int v]) := by
    intro v t pc H locs ls hd h hz
    cases h
    exact ziret hsz hx hb hr hlocks hz hd
  generalize (MQ below (Qzi (dC, dI) 30 a (wdC cI cZ a σ) sz r) args s 0 0 (aN 30 a sz)) = Q at rt ⊢
  unfold fX4_returnOf_c at h
  refine lv_aload_n hx hb dX4_returnOf_0 rfl (lv_at hl 0 rfl) ?_
  refine lv_iload_n hx hb dX4_returnOf_1 rfl (lv_at hl 1 rfl) ?_
  obtain ⟨r1, e3, h⟩ := bd1_e h
  refine zcallVi (As := [.int x1]) (rest := []) CF hKK (KX4_has_c (dC := dC) (dI := dI) (cI := cI) (cZ := cZ) (a := a) hok e3) (cwV 1 hts gX4_returnOf_X4_has rfl rfl rfl cdX4_has ⟨Nat.le_of_ble_eq_true rfl, Nat.le_of_ble_eq_true rfl⟩) 18 4 rfl rfl hz rfl hl.1 rfl (Nat.le_of_ble_eq_true rfl) dX4_returnOf_2 ⟨Nat.le_refl _, Nat.le_refl _⟩ (fun H locs hz => ?_)
  refine lv_if_eq (tgt := 17) hx hb dX4_returnOf_5 (by decide) (fun c4 => ?_) (fun c4 => ?_)
  · replace h := ite_t c4 h
    refine lv_iconst (v := (-1 : Int32)) hx hb dX4_returnOf_17 (by decide) ?_
    exact rt (-1 : Int32) σ 18 _ _ _ dX4_returnOf_18 h hz
  · replace h := ite_f c4 h
    refine lv_aload_n hx hb dX4_returnOf_8 rfl (lv_at hl 0 rfl) ?_
    refine va_get (v := .ref (a 20)) hx hb hts inX4_returnOf_X4 hown hKK.1 hz.1 18 rfl rfl 1 (by decide) (hts _ (List.mem_of_getElem? (i := 1) rfl)) (fun _ h9 => h9) rfl dX4_returnOf_9 ?_
    refine lv_iload_n hx hb dX4_returnOf_12 rfl (lv_at hl 1 rfl) ?_
    obtain ⟨c5, h⟩ := ck_e h
    refine va_iald (f := (σ 20)) hx hb hKK.1 hz.1 20 0 rfl rfl c5 dX4_returnOf_13 ?_
    refine lv_goto (tgt := 18) hx hb dX4_returnOf_14 (by decide) ?_
    exact rt ((σ 20) (Int32.toNatClampNeg x1)) σ 18 _ _ _ dX4_returnOf_18 h hz
def fX5_letter (σ : St) (x1 : Int32) : Option (Int32 × St) :=
  (if x1 < (32 : Int32) then (some ((-1002 : Int32), σ)) else ((if x1 ≤ (126 : Int32) then ((bd2 (fX1_append σ x1) fun r3 s4 => (if r3 = 0 then (some ((-1004 : Int32), s4)) else ((bd1 (fX1_length s4 ) fun r7 => some (r7, s4)))))) else (some ((-1002 : Int32), σ)))))
abbrev rmX5_letter : Room := { frames := 1, cells := 0, slots := 0, locals := 21 }
set_option maxHeartbeats 4000000 in
set_option maxRecDepth 100000 in
theorem KX5_letter {l : Launch} {dC : Nat → ClassId} {dI : Nat → Nat → Nat} {cI cZ : ClassId} {a : Nat → Nat} {σ : St} {x1 : Int32} {r : Int32} {σ2 : St} (hok : okA 30 a) (h : fX5_letter σ x1 = some (r, σ2)) (sz : Nat) : Met l yX5_letter wsX5_letter rmX5_letter (Pz (dC, dI) cI cZ (wdC cI cZ a σ) sz [.ref (a 0), .int x1]) (Qzi (dC, dI) 30 a (wdC cI cZ a σ2) sz r) 0 0 (aN 30 a sz) := by
  refine Met.ofW (cc := cX5_letter) (maxL := 2) (ret := (some .int)) (by decide) rfl ?_
  intro p e s m args below meth c s₁ B hml hv
  obtain ⟨hav, hsz, hP, hKK⟩ := hv
  have hx := B.exec
  have hb := B.bytes
  have hr := B.returns
  have hts := atoms_spec (ws := wsX5_letter) B.pre
  have hown : s.vm.findClass RX5 = some m.cls := findClass_of_methodNamed B.named
  have hlocks := B.notSynchronized
  have CF : CallFix p m c cX5_letter 2 s args wsX5_letter RX5 := ⟨hx, hb, hml, hown, hts⟩
  have hz : zz (dC, dI) 30 a (wdC cI cZ a σ) s.heap s.heap [] := ⟨hP, va_S.rf⟩
  have hl := lv_entry [.ref (a 0), .int x1] (n := 2) (Nat.le_of_ble_eq_true rfl)
  have hen : entryFrame m args 2 = entryFrame m ([.ref (a 0), .int x1] : List Value).toArray 2 := by rw [hav]
  rw [hen, lg_entry_eq]
  generalize (lg_sl [.ref (a 0), .int x1] ++ List.replicate (2 - (lg_sl [.ref (a 0), .int x1]).length) Slot.unset).toArray = ls at hl ⊢
  have hl : lv_has ls 2 [(0, .ref (a 0)), (1, .int x1)] := hl
  have eR : (headSpec wsX5_letter rmX5_letter).room = rmX5_letter := rfl
  rw [eR]
  have rt : ∀ (v : Int32) (t : St) (pc : Nat) (H : Heap) (locs : List Loc) (ls : Array Slot), decode cX5_letter pc = .ok (.ireturn, 1) → some (v, t) = some (r, σ2) → zz (dC, dI) 30 a (wdC cI cZ a t) s.heap H locs → W p l e rmX5_letter s m args below meth c H locs 0 0 (MQ below (Qzi (dC, dI) 30 a (wdC cI cZ a σ2) sz r) args s 0 0 (aN 30 a sz)) (F0 m pc ls [.int v]) := by
    intro v t pc H locs ls hd h hz
    cases h
    exact ziret hsz hx hb hr hlocks hz hd
  generalize (MQ below (Qzi (dC, dI) 30 a (wdC cI cZ a σ2) sz r) args s 0 0 (aN 30 a sz)) = Q at rt ⊢
  unfold fX5_letter at h
  refine lv_iload_n hx hb dX5_letter_0 rfl (lv_at hl 1 rfl) ?_
  refine lv_bipush (v := (32 : Int32)) hx hb dX5_letter_1 (by decide) ?_
  refine lv_icmp_lt (tgt := 12) hx hb dX5_letter_3 (by decide) (fun c1 => ?_) (fun c1 => ?_)
  · replace h := ite_t c1 h
    refine lv_sipush (v := (-1002 : Int32)) hx hb dX5_letter_12 (by decide) ?_
    exact rt (-1002 : Int32) σ 15 _ _ _ dX5_letter_15 h hz
  · replace h := ite_f c1 h
    refine lv_iload_n hx hb dX5_letter_6 rfl (lv_at hl 1 rfl) ?_
    refine lv_bipush (v := (126 : Int32)) hx hb dX5_letter_7 (by decide) ?_
    refine lv_icmp_le (tgt := 16) hx hb dX5_letter_9 (by decide) (fun c2 => ?_) (fun c2 => ?_)
    · replace h := ite_t c2 h
      refine lv_aload_n hx hb dX5_letter_16 rfl (lv_at hl 0 rfl) ?_
      refine va_get (v := .ref (a 1)) hx hb hts inX5_letter_X5 hown hKK.1 hz.1 0 rfl rfl 0 (by decide) (hts _ (List.mem_of_getElem? (i := 1) rfl)) (fun _ h9 => h9) rfl dX5_letter_17 ?_
      refine lv_iload_n hx hb dX5_letter_20 rfl (lv_at hl 1 rfl) ?_
      obtain ⟨r3, s4, e5, h⟩ := bd2_e h
      refine zcallVi (As := [.int x1]) (rest := []) CF hKK (KX1_append (dC := dC) (dI := dI) (cI := cI) (cZ := cZ) (a := a) hok e5) (cwV 1 hts gX5_letter_X1_append rfl rfl rfl cdX1_append ⟨Nat.le_of_ble_eq_true rfl, Nat.le_of_ble_eq_true rfl⟩) 1 1 rfl rfl hz rfl hl.1 rfl (Nat.le_of_ble_eq_true rfl) dX5_letter_21 ⟨Nat.le_refl _, Nat.le_refl _⟩ (fun H locs hz => ?_)
      refine lv_if_eq (tgt := 37) hx hb dX5_letter_24 (by decide) (fun c6 => ?_) (fun c6 => ?_)
      · replace h := ite_t c6 h
        refine lv_sipush (v := (-1004 : Int32)) hx hb dX5_letter_37 (by decide) ?_
        exact rt (-1004 : Int32) s4 40 _ _ _ dX5_letter_40 h hz
      · replace h := ite_f c6 h
        refine lv_aload_n hx hb dX5_letter_27 rfl (lv_at hl 0 rfl) ?_
        refine va_get (v := .ref (a 1)) hx hb hts inX5_letter_X5 hown hKK.1 hz.1 0 rfl rfl 0 (by decide) (hts _ (List.mem_of_getElem? (i := 1) rfl)) (fun _ h9 => h9) rfl dX5_letter_28 ?_
        obtain ⟨r7, e9, h⟩ := bd1_e h
        refine zcallVi (As := []) (rest := []) CF hKK (KX1_length (dC := dC) (dI := dI) (cI := cI) (cZ := cZ) (a := a) hok e9) (cwV 0 hts gX5_letter_X1_length rfl rfl rfl cdX1_length ⟨Nat.le_of_ble_eq_true rfl, Nat.le_of_ble_eq_true rfl⟩) 1 1 rfl rfl hz rfl hl.1 rfl (Nat.le_of_ble_eq_true rfl) dX5_letter_31 ⟨Nat.le_refl _, Nat.le_refl _⟩ (fun H locs hz => ?_)
        refine lv_goto (tgt := 40) hx hb dX5_letter_34 (by decide) ?_
        exact rt r7 s4 40 _ _ _ dX5_letter_40 h hz
    · replace h := ite_f c2 h
      refine lv_sipush (v := (-1002 : Int32)) hx hb dX5_letter_12 (by decide) ?_
      exact rt (-1002 : Int32) σ 15 _ _ _ dX5_letter_15 h hz
def fX5_blank (σ : St)  : Option (Int32 × St) :=
  (bd1 (fX1_length σ ) fun r1 => (bd1 (fX1_clear σ ) fun s5 => some (r1, s5)))
abbrev rmX5_blank : Room := { frames := 1, cells := 0, slots := 0, locals := 20 }
set_option maxHeartbeats 4000000 in
set_option maxRecDepth 100000 in
theorem KX5_blank {l : Launch} {dC : Nat → ClassId} {dI : Nat → Nat → Nat} {cI cZ : ClassId} {a : Nat → Nat} {σ : St}  {r : Int32} {σ2 : St} (hok : okA 30 a) (h : fX5_blank σ  = some (r, σ2)) (sz : Nat) : Met l yX5_blank wsX5_blank rmX5_blank (Pz (dC, dI) cI cZ (wdC cI cZ a σ) sz [.ref (a 0)]) (Qzi (dC, dI) 30 a (wdC cI cZ a σ2) sz r) 0 0 (aN 30 a sz) := by
  refine Met.ofW (cc := cX5_blank) (maxL := 2) (ret := (some .int)) (by decide) rfl ?_
  intro p e s m args below meth c s₁ B hml hv
  obtain ⟨hav, hsz, hP, hKK⟩ := hv
  have hx := B.exec
  have hb := B.bytes
  have hr := B.returns
  have hts := atoms_spec (ws := wsX5_blank) B.pre
  have hown : s.vm.findClass RX5 = some m.cls := findClass_of_methodNamed B.named
  have hlocks := B.notSynchronized
  have CF : CallFix p m c cX5_blank 2 s args wsX5_blank RX5 := ⟨hx, hb, hml, hown, hts⟩
  have hz : zz (dC, dI) 30 a (wdC cI cZ a σ) s.heap s.heap [] := ⟨hP, va_S.rf⟩
  have hl := lv_entry [.ref (a 0)] (n := 2) (Nat.le_of_ble_eq_true rfl)
  have hen : entryFrame m args 2 = entryFrame m ([.ref (a 0)] : List Value).toArray 2 := by rw [hav]
  rw [hen, lg_entry_eq]
  generalize (lg_sl [.ref (a 0)] ++ List.replicate (2 - (lg_sl [.ref (a 0)]).length) Slot.unset).toArray = ls at hl ⊢
  have hl : lv_has ls 2 [(0, .ref (a 0))] := hl
  have eR : (headSpec wsX5_blank rmX5_blank).room = rmX5_blank := rfl
  rw [eR]
  have rt : ∀ (v : Int32) (t : St) (pc : Nat) (H : Heap) (locs : List Loc) (ls : Array Slot), decode cX5_blank pc = .ok (.ireturn, 1) → some (v, t) = some (r, σ2) → zz (dC, dI) 30 a (wdC cI cZ a t) s.heap H locs → W p l e rmX5_blank s m args below meth c H locs 0 0 (MQ below (Qzi (dC, dI) 30 a (wdC cI cZ a σ2) sz r) args s 0 0 (aN 30 a sz)) (F0 m pc ls [.int v]) := by
    intro v t pc H locs ls hd h hz
    cases h
    exact ziret hsz hx hb hr hlocks hz hd
  generalize (MQ below (Qzi (dC, dI) 30 a (wdC cI cZ a σ2) sz r) args s 0 0 (aN 30 a sz)) = Q at rt ⊢
  unfold fX5_blank at h
  refine lv_aload_n hx hb dX5_blank_0 rfl (lv_at hl 0 rfl) ?_
  refine va_get (v := .ref (a 1)) hx hb hts inX5_blank_X5 hown hKK.1 hz.1 0 rfl rfl 0 (by decide) (hts _ (List.mem_of_getElem? (i := 1) rfl)) (fun _ h9 => h9) rfl dX5_blank_1 ?_
  obtain ⟨r1, e3, h⟩ := bd1_e h
  refine zcallVi (As := []) (rest := []) CF hKK (KX1_length (dC := dC) (dI := dI) (cI := cI) (cZ := cZ) (a := a) hok e3) (cwV 0 hts gX5_blank_X1_length rfl rfl rfl cdX1_length ⟨Nat.le_of_ble_eq_true rfl, Nat.le_of_ble_eq_true rfl⟩) 1 1 rfl rfl hz rfl hl.1 rfl (Nat.le_of_ble_eq_true rfl) dX5_blank_4 ⟨Nat.le_refl _, Nat.le_refl _⟩ (fun H locs hz => ?_)
  refine lv_istore_n (lv' := [(1, .int r1), (0, .ref (a 0))]) hx hb dX5_blank_7 rfl hl (by decide) rfl (fun ls hl => ?_)
  refine lv_aload_n hx hb dX5_blank_8 rfl (lv_at hl 1 rfl) ?_
  refine va_get (v := .ref (a 1)) hx hb hts inX5_blank_X5 hown hKK.1 hz.1 0 rfl rfl 0 (by decide) (hts _ (List.mem_of_getElem? (i := 1) rfl)) (fun _ h9 => h9) rfl dX5_blank_9 ?_
  obtain ⟨s5, e6, h⟩ := bd1_e h
  refine zcallVv (As := []) (rest := []) CF hKK (KX1_clear (dC := dC) (dI := dI) (cI := cI) (cZ := cZ) (a := a) hok e6) (cwV 0 hts gX5_blank_X1_clear rfl rfl rfl cdX1_clear ⟨Nat.le_of_ble_eq_true rfl, Nat.le_of_ble_eq_true rfl⟩) 1 1 rfl rfl hz rfl hl.1 rfl (Nat.le_of_ble_eq_true rfl) dX5_blank_12 ⟨Nat.le_refl _, Nat.le_refl _⟩ (fun H locs hz => ?_)
  refine lv_iload_n hx hb dX5_blank_15 rfl (lv_at hl 0 rfl) ?_
  exact rt r1 s5 16 _ _ _ dX5_blank_16 h hz
def fX5_fault (σ : St)  : Option (Int32 × St) :=
  (bd2 (fX3_read σ ) fun r1 s2 => some (r1, s2))
abbrev rmX5_fault : Room := { frames := 4, cells := 0, slots := 0, locals := 91 }
set_option maxHeartbeats 4000000 in
set_option maxRecDepth 100000 in
theorem KX5_fault {l : Launch} {dC : Nat → ClassId} {dI : Nat → Nat → Nat} {cI cZ : ClassId} {a : Nat → Nat} {σ : St}  {r : Int32} {σ2 : St} (hok : okA 30 a) (h : fX5_fault σ  = some (r, σ2)) (sz : Nat) : Met l yX5_fault wsX5_fault rmX5_fault (Pz (dC, dI) cI cZ (wdC cI cZ a σ) sz [.ref (a 0)]) (Qzi (dC, dI) 30 a (wdC cI cZ a σ2) sz r) 0 0 (aN 30 a sz) := by
  refine Met.ofW (cc := cX5_fault) (maxL := 1) (ret := (some .int)) (by decide) rfl ?_
  intro p e s m args below meth c s₁ B hml hv
  obtain ⟨hav, hsz, hP, hKK⟩ := hv
  have hx := B.exec
  have hb := B.bytes
  have hr := B.returns
  have hts := atoms_spec (ws := wsX5_fault) B.pre
  have hown : s.vm.findClass RX5 = some m.cls := findClass_of_methodNamed B.named
  have hlocks := B.notSynchronized
  have CF : CallFix p m c cX5_fault 1 s args wsX5_fault RX5 := ⟨hx, hb, hml, hown, hts⟩
  have hz : zz (dC, dI) 30 a (wdC cI cZ a σ) s.heap s.heap [] := ⟨hP, va_S.rf⟩
  have hl := lv_entry [.ref (a 0)] (n := 1) (Nat.le_of_ble_eq_true rfl)
  have hen : entryFrame m args 1 = entryFrame m ([.ref (a 0)] : List Value).toArray 1 := by rw [hav]
  rw [hen, lg_entry_eq]
  generalize (lg_sl [.ref (a 0)] ++ List.replicate (1 - (lg_sl [.ref (a 0)]).length) Slot.unset).toArray = ls at hl ⊢
  have hl : lv_has ls 1 [(0, .ref (a 0))] := hl
  have eR : (headSpec wsX5_fault rmX5_fault).room = rmX5_fault := rfl
  rw [eR]
  have rt : ∀ (v : Int32) (t : St) (pc : Nat) (H : Heap) (locs : List Loc) (ls : Array Slot), decode cX5_fault pc = .ok (.ireturn, 1) → some (v, t) = some (r, σ2) → zz (dC, dI) 30 a (wdC cI cZ a t) s.heap H locs → W p l e rmX5_fault s m args below meth c H locs 0 0 (MQ below (Qzi (dC, dI) 30 a (wdC cI cZ a σ2) sz r) args s 0 0 (aN 30 a sz)) (F0 m pc ls [.int v]) := by
    intro v t pc H locs ls hd h hz
    cases h
    exact ziret hsz hx hb hr hlocks hz hd
  generalize (MQ below (Qzi (dC, dI) 30 a (wdC cI cZ a σ2) sz r) args s 0 0 (aN 30 a sz)) = Q at rt ⊢
  unfold fX5_fault at h
  refine lv_aload_n hx hb dX5_fault_0 rfl (lv_at hl 0 rfl) ?_
  refine va_get (v := .ref (a 3)) hx hb hts inX5_fault_X5 hown hKK.1 hz.1 0 rfl rfl 1 (by decide) (hts _ (List.mem_of_getElem? (i := 1) rfl)) (fun _ h9 => h9) rfl dX5_fault_1 ?_
  refine lv_aload_n hx hb dX5_fault_4 rfl (lv_at hl 0 rfl) ?_
  refine va_get (v := .ref (a 1)) hx hb hts inX5_fault_X5 hown hKK.1 hz.1 0 rfl rfl 0 (by decide) (hts _ (List.mem_of_getElem? (i := 2) rfl)) (fun _ h9 => h9) rfl dX5_fault_5 ?_
  obtain ⟨r1, s2, e3, h⟩ := bd2_e h
  refine zcallVi (As := [.ref (a 1)]) (rest := []) CF hKK (KX3_read (dC := dC) (dI := dI) (cI := cI) (cZ := cZ) (a := a) hok e3) (cwV 1 hts gX5_fault_X3_read rfl rfl rfl cdX3_read ⟨Nat.le_of_ble_eq_true rfl, Nat.le_of_ble_eq_true rfl⟩) 3 3 rfl rfl hz rfl hl.1 rfl (Nat.le_of_ble_eq_true rfl) dX5_fault_8 ⟨Nat.le_refl _, Nat.le_refl _⟩ (fun H locs hz => ?_)
  exact rt r1 s2 11 _ _ _ dX5_fault_11 h hz
def fX5_code (σ : St)  : Option (Int32 × St) :=
  (bd2 (fX3_read σ ) fun r1 s2 => (bd1 (fX1_length s2 ) fun r4 => (if r1 < r4 then (some ((-1003 : Int32), s2)) else ((bd1 (fX3_isWhole s2 ) fun r8 => (if r8 = 0 then (some ((-1003 : Int32), s2)) else ((bd1 (fX0_takeFrom_p s2 ) fun s13 => (bd1 (fX1_clear s13 ) fun s16 => (bd1 (fX2_placeAll (si s16 40 ((s16 40 0) + (1 : Int32))) ) fun s19 => (bd1 (fX0_size_p s19 ) fun r21 => some (r21, s19))))))))))))
abbrev rmX5_code : Room := { frames := 6, cells := 0, slots := 0, locals := 138 }
set_option maxHeartbeats 4000000 in
set_option maxRecDepth 100000 in
theorem KX5_code {l : Launch} {dC : Nat → ClassId} {dI : Nat → Nat → Nat} {cI cZ : ClassId} {a : Nat → Nat} {σ : St}  {r : Int32} {σ2 : St} (hok : okA 30 a) (h : fX5_code σ  = some (r, σ2)) (sz : Nat) : Met l yX5_code wsX5_code rmX5_code (Pz (dC, dI) cI cZ (wdC cI cZ a σ) sz [.ref (a 0)]) (Qzi (dC, dI) 30 a (wdC cI cZ a σ2) sz r) 0 0 (aN 30 a sz) := by
  refine Met.ofW (cc := cX5_code) (maxL := 1) (ret := (some .int)) (by decide) rfl ?_
  intro p e s m args below meth c s₁ B hml hv
  obtain ⟨hav, hsz, hP, hKK⟩ := hv
  have hx := B.exec
  have hb := B.bytes
  have hr := B.returns
  have hts := atoms_spec (ws := wsX5_code) B.pre
  have hown : s.vm.findClass RX5 = some m.cls := findClass_of_methodNamed B.named
  have hlocks := B.notSynchronized
  have CF : CallFix p m c cX5_code 1 s args wsX5_code RX5 := ⟨hx, hb, hml, hown, hts⟩
  have hz : zz (dC, dI) 30 a (wdC cI cZ a σ) s.heap s.heap [] := ⟨hP, va_S.rf⟩
  have hl := lv_entry [.ref (a 0)] (n := 1) (Nat.le_of_ble_eq_true rfl)
  have hen : entryFrame m args 1 = entryFrame m ([.ref (a 0)] : List Value).toArray 1 := by rw [hav]
  rw [hen, lg_entry_eq]
  generalize (lg_sl [.ref (a 0)] ++ List.replicate (1 - (lg_sl [.ref (a 0)]).length) Slot.unset).toArray = ls at hl ⊢
  have hl : lv_has ls 1 [(0, .ref (a 0))] := hl
  have eR : (headSpec wsX5_code rmX5_code).room = rmX5_code := rfl
  rw [eR]
  have rt : ∀ (v : Int32) (t : St) (pc : Nat) (H : Heap) (locs : List Loc) (ls : Array Slot), decode cX5_code pc = .ok (.ireturn, 1) → some (v, t) = some (r, σ2) → zz (dC, dI) 30 a (wdC cI cZ a t) s.heap H locs → W p l e rmX5_code s m args below meth c H locs 0 0 (MQ below (Qzi (dC, dI) 30 a (wdC cI cZ a σ2) sz r) args s 0 0 (aN 30 a sz)) (F0 m pc ls [.int v]) := by
    intro v t pc H locs ls hd h hz
    cases h
    exact ziret hsz hx hb hr hlocks hz hd
  generalize (MQ below (Qzi (dC, dI) 30 a (wdC cI cZ a σ2) sz r) args s 0 0 (aN 30 a sz)) = Q at rt ⊢
  unfold fX5_code at h
  refine lv_aload_n hx hb dX5_code_0 rfl (lv_at hl 0 rfl) ?_
  refine va_get (v := .ref (a 3)) hx hb hts inX5_code_X5 hown hKK.1 hz.1 0 rfl rfl 1 (by decide) (hts _ (List.mem_of_getElem? (i := 1) rfl)) (fun _ h9 => h9) rfl dX5_code_1 ?_
  refine lv_aload_n hx hb dX5_code_4 rfl (lv_at hl 0 rfl) ?_
  refine va_get (v := .ref (a 1)) hx hb hts inX5_code_X5 hown hKK.1 hz.1 0 rfl rfl 0 (by decide) (hts _ (List.mem_of_getElem? (i := 2) rfl)) (fun _ h9 => h9) rfl dX5_code_5 ?_
  obtain ⟨r1, s2, e3, h⟩ := bd2_e h
  refine zcallVi (As := [.ref (a 1)]) (rest := []) CF hKK (KX3_read (dC := dC) (dI := dI) (cI := cI) (cZ := cZ) (a := a) hok e3) (cwV 1 hts gX5_code_X3_read rfl rfl rfl cdX3_read ⟨Nat.le_of_ble_eq_true rfl, Nat.le_of_ble_eq_true rfl⟩) 3 3 rfl rfl hz rfl hl.1 rfl (Nat.le_of_ble_eq_true rfl) dX5_code_8 ⟨Nat.le_refl _, Nat.le_refl _⟩ (fun H locs hz => ?_)
  refine lv_aload_n hx hb dX5_code_11 rfl (lv_at hl 0 rfl) ?_
  refine va_get (v := .ref (a 1)) hx hb hts inX5_code_X5 hown hKK.1 hz.1 0 rfl rfl 0 (by decide) (hts _ (List.mem_of_getElem? (i := 2) rfl)) (fun _ h9 => h9) rfl dX5_code_12 ?_
  obtain ⟨r4, e6, h⟩ := bd1_e h
  refine zcallVi (As := []) (rest := [.int r1]) CF hKK (KX1_length (dC := dC) (dI := dI) (cI := cI) (cZ := cZ) (a := a) hok e6) (cwV 0 hts gX5_code_X1_length rfl rfl rfl cdX1_length ⟨Nat.le_of_ble_eq_true rfl, Nat.le_of_ble_eq_true rfl⟩) 1 1 rfl rfl hz rfl hl.1 rfl (Nat.le_of_ble_eq_true rfl) dX5_code_15 ⟨Nat.le_refl _, Nat.le_refl _⟩ (fun H locs hz => ?_)
  refine lv_icmp_lt (tgt := 31) hx hb dX5_code_18 (by decide) (fun c7 => ?_) (fun c7 => ?_)
  · replace h := ite_t c7 h
    refine lv_sipush (v := (-1003 : Int32)) hx hb dX5_code_31 (by decide) ?_
    exact rt (-1003 : Int32) s2 34 _ _ _ dX5_code_34 h hz
  · replace h := ite_f c7 h
    refine lv_aload_n hx hb dX5_code_21 rfl (lv_at hl 0 rfl) ?_
    refine va_get (v := .ref (a 3)) hx hb hts inX5_code_X5 hown hKK.1 hz.1 0 rfl rfl 1 (by decide) (hts _ (List.mem_of_getElem? (i := 1) rfl)) (fun _ h9 => h9) rfl dX5_code_22 ?_
    obtain ⟨r8, e10, h⟩ := bd1_e h
    refine zcallVi (As := []) (rest := []) CF hKK (KX3_isWhole (dC := dC) (dI := dI) (cI := cI) (cZ := cZ) (a := a) hok e10) (cwV 0 hts gX5_code_X3_isWhole rfl rfl rfl cdX3_isWhole ⟨Nat.le_of_ble_eq_true rfl, Nat.le_of_ble_eq_true rfl⟩) 3 3 rfl rfl hz rfl hl.1 rfl (Nat.le_of_ble_eq_true rfl) dX5_code_25 ⟨Nat.le_refl _, Nat.le_refl _⟩ (fun H locs hz => ?_)
    refine lv_if_ne (tgt := 35) hx hb dX5_code_28 (by decide) (fun c11 => ?_) (fun c11 => ?_)
    · replace h := ite_f c11 h
      refine lv_aload_n hx hb dX5_code_35 rfl (lv_at hl 0 rfl) ?_
      refine va_get (v := .ref (a 7)) hx hb hts inX5_code_X5 hown hKK.1 hz.1 0 rfl rfl 2 (by decide) (hts _ (List.mem_of_getElem? (i := 3) rfl)) (fun _ h9 => h9) rfl dX5_code_36 ?_
      refine lv_aload_n hx hb dX5_code_39 rfl (lv_at hl 0 rfl) ?_
      refine va_get (v := .ref (a 3)) hx hb hts inX5_code_X5 hown hKK.1 hz.1 0 rfl rfl 1 (by decide) (hts _ (List.mem_of_getElem? (i := 1) rfl)) (fun _ h9 => h9) rfl dX5_code_40 ?_
      refine va_getN (v := .ref (a 4)) hx hb hts inX5_code_X3 hown hKK.1 hz.1 3 rfl rfl 0 (by decide) (va_Nw.use rfl hKK.2.2.2.2.1) (fun _ h9 => h9) rfl dX5_code_43 ?_
      obtain ⟨s13, e14, h⟩ := bd1_e h
      refine zcallVv (As := [.ref (a 4)]) (rest := []) CF hKK (KX0_takeFrom_p (dC := dC) (dI := dI) (cI := cI) (cZ := cZ) (a := a) hok e14) (cwV 1 hts gX5_code_X0_takeFrom rfl rfl rfl cdX0_takeFrom ⟨Nat.le_of_ble_eq_true rfl, Nat.le_of_ble_eq_true rfl⟩) 7 0 rfl rfl hz rfl hl.1 rfl (Nat.le_of_ble_eq_true rfl) dX5_code_46 ⟨Nat.le_refl _, Nat.le_refl _⟩ (fun H locs hz => ?_)
      refine lv_aload_n hx hb dX5_code_49 rfl (lv_at hl 0 rfl) ?_
      refine va_get (v := .ref (a 1)) hx hb hts inX5_code_X5 hown hKK.1 hz.1 0 rfl rfl 0 (by decide) (hts _ (List.mem_of_getElem? (i := 2) rfl)) (fun _ h9 => h9) rfl dX5_code_50 ?_
      obtain ⟨s16, e17, h⟩ := bd1_e h
      refine zcallVv (As := []) (rest := []) CF hKK (KX1_clear (dC := dC) (dI := dI) (cI := cI) (cZ := cZ) (a := a) hok e17) (cwV 0 hts gX5_code_X1_clear rfl rfl rfl cdX1_clear ⟨Nat.le_of_ble_eq_true rfl, Nat.le_of_ble_eq_true rfl⟩) 1 1 rfl rfl hz rfl hl.1 rfl (Nat.le_of_ble_eq_true rfl) dX5_code_53 ⟨Nat.le_refl _, Nat.le_refl _⟩ (fun H locs hz => ?_)
      refine lv_aload_n hx hb dX5_code_56 rfl (lv_at hl 0 rfl) ?_
      refine lv_dup hx hb dX5_code_57 rfl ?_
      refine va_get (v := .int (s16 40 0)) hx hb hts inX5_code_X5 hown hKK.1 hz.1 0 rfl rfl 5 (by decide) (hts _ (List.mem_of_getElem? (i := 4) rfl)) (fun _ h9 => h9) rfl dX5_code_58 ?_
      refine lv_iconst (v := (1 : Int32)) hx hb dX5_code_61 (by decide) ?_
      refine lv_iadd hx hb dX5_code_62 ?_
      refine zput (ty := .int) (w' := wdC cI cZ a (si s16 40 ((s16 40 0) + (1 : Int32)))) hx hb hts inX5_code_X5 tyX5 tyX5_ok nmX5 hown hKK hok wkC hz 0 rfl rfl 5 (by decide) (hts _ (List.mem_of_getElem? (i := 4) rfl)) (fun _ h9 => h9) rfl rfl rfl rfl (Nat.le_of_ble_eq_true rfl) setCi_40 dX5_code_63 (fun H locs hz => ?_)
      refine lv_aload_n hx hb dX5_code_66 rfl (lv_at hl 0 rfl) ?_
      refine va_get (v := .ref (a 11)) hx hb hts inX5_code_X5 hown hKK.1 hz.1 0 rfl rfl 4 (by decide) (hts _ (List.mem_of_getElem? (i := 5) rfl)) (fun _ h9 => h9) rfl dX5_code_67 ?_
      obtain ⟨s19, e20, h⟩ := bd1_e h
      refine zcallVv (As := []) (rest := []) CF hKK (KX2_placeAll (dC := dC) (dI := dI) (cI := cI) (cZ := cZ) (a := a) hok e20) (cwV 0 hts gX5_code_X2_placeAll rfl rfl rfl cdX2_placeAll ⟨Nat.le_of_ble_eq_true rfl, Nat.le_of_ble_eq_true rfl⟩) 11 2 rfl rfl hz rfl hl.1 rfl (Nat.le_of_ble_eq_true rfl) dX5_code_70 ⟨Nat.le_refl _, Nat.le_refl _⟩ (fun H locs hz => ?_)
      refine lv_aload_n hx hb dX5_code_73 rfl (lv_at hl 0 rfl) ?_
      refine va_get (v := .ref (a 7)) hx hb hts inX5_code_X5 hown hKK.1 hz.1 0 rfl rfl 2 (by decide) (hts _ (List.mem_of_getElem? (i := 3) rfl)) (fun _ h9 => h9) rfl dX5_code_74 ?_
      obtain ⟨r21, e23, h⟩ := bd1_e h
      refine zcallVi (As := []) (rest := []) CF hKK (KX0_size_p (dC := dC) (dI := dI) (cI := cI) (cZ := cZ) (a := a) hok e23) (cwV 0 hts gX5_code_X0_size rfl rfl rfl cdX0_size ⟨Nat.le_of_ble_eq_true rfl, Nat.le_of_ble_eq_true rfl⟩) 7 0 rfl rfl hz rfl hl.1 rfl (Nat.le_of_ble_eq_true rfl) dX5_code_77 ⟨Nat.le_refl _, Nat.le_refl _⟩ (fun H locs hz => ?_)
      exact rt r21 s19 80 _ _ _ dX5_code_80 h hz
    · replace h := ite_t c11 h
      refine lv_sipush (v := (-1003 : Int32)) hx hb dX5_code_31 (by decide) ?_
      exact rt (-1003 : Int32) s2 34 _ _ _ dX5_code_34 h hz
def fX5_reach (σ : St) (x1 : Int32) (x2 : Int32) : Option (Int32 × St) :=
  (if x1 < 0 then (some ((-1002 : Int32), σ)) else ((if x1 ≤ (2 : Int32) then ((ck (¬ (x1 < 0 ∨ 3 ≤ Int32.toNatClampNeg x1)) <| (if x2 < (lr (Int32.toNatClampNeg x1)) then (some ((-1002 : Int32), σ)) else ((ck (¬ (x1 < 0 ∨ 3 ≤ Int32.toNatClampNeg x1)) <| (if x2 ≤ (mr (Int32.toNatClampNeg x1)) then ((ck (¬ (x1 < 0 ∨ 3 ≤ Int32.toNatClampNeg x1)) <| (ck (¬ (x1 < 0 ∨ 3 ≤ Int32.toNatClampNeg x1)) <| (bd1 (fX2_placeAll (si (sa σ 10 (Int32.toNatClampNeg x1) x2) 41 ((σ 41 0) + (1 : Int32))) ) fun s10 => some (((σ 10) (Int32.toNatClampNeg x1)), s10))))) else (some ((-1002 : Int32), σ)))))))) else (some ((-1002 : Int32), σ)))))
abbrev rmX5_reach : Room := { frames := 6, cells := 0, slots := 0, locals := 138 }
set_option maxHeartbeats 4000000 in
set_option maxRecDepth 100000 in
theorem KX5_reach {l : Launch} {dC : Nat → ClassId} {dI : Nat → Nat → Nat} {cI cZ : ClassId} {a : Nat → Nat} {q1 q2 : Nat} {σ : St} {x1 : Int32} {x2 : Int32} {r : Int32} {σ2 : St} (hok : okA 30 a) (h : fX5_reach σ x1 x2 = some (r, σ2)) (sz : Nat) : Met l yX5_reach wsX5_reach rmX5_reach (PzR q1 q2 a (dC, dI) cI cZ (wdC cI cZ a σ) sz [.ref (a 0), .int x1, .int x2]) (Qzi (dC, dI) 30 a (wdC cI cZ a σ2) sz r) 0 0 (aN 30 a sz) := by
  refine Met.ofW (cc := cX5_reach) (maxL := 4) (ret := (some .int)) (by decide) rfl ?_
  intro p e s m args below meth c s₁ B hml hv
  obtain ⟨hav, hsz, hP, hKK, hTb⟩ := hv
  have hx := B.exec
  have hb := B.bytes
  have hr := B.returns
  have hts := atoms_spec (ws := wsX5_reach) B.pre
  have hown : s.vm.findClass RX5 = some m.cls := findClass_of_methodNamed B.named
  have hlocks := B.notSynchronized
  have CF : CallFix p m c cX5_reach 4 s args wsX5_reach RX5 := ⟨hx, hb, hml, hown, hts⟩
  have hz : zz (dC, dI) 30 a (wdC cI cZ a σ) s.heap s.heap [] := ⟨hP, va_S.rf⟩
  have hl := lv_entry [.ref (a 0), .int x1, .int x2] (n := 4) (Nat.le_of_ble_eq_true rfl)
  have hen : entryFrame m args 4 = entryFrame m ([.ref (a 0), .int x1, .int x2] : List Value).toArray 4 := by rw [hav]
  rw [hen, lg_entry_eq]
  generalize (lg_sl [.ref (a 0), .int x1, .int x2] ++ List.replicate (4 - (lg_sl [.ref (a 0), .int x1, .int x2]).length) Slot.unset).toArray = ls at hl ⊢
  have hl : lv_has ls 4 [(0, .ref (a 0)), (1, .int x1), (2, .int x2)] := hl
  have eR : (headSpec wsX5_reach rmX5_reach).room = rmX5_reach := rfl
  rw [eR]
  have rt : ∀ (v : Int32) (t : St) (pc : Nat) (H : Heap) (locs : List Loc) (ls : Array Slot), decode cX5_reach pc = .ok (.ireturn, 1) → some (v, t) = some (r, σ2) → zz (dC, dI) 30 a (wdC cI cZ a t) s.heap H locs → W p l e rmX5_reach s m args below meth c H locs 0 0 (MQ below (Qzi (dC, dI) 30 a (wdC cI cZ a σ2) sz r) args s 0 0 (aN 30 a sz)) (F0 m pc ls [.int v]) := by
    intro v t pc H locs ls hd h hz
    cases h
    exact ziret hsz hx hb hr hlocks hz hd
  generalize (MQ below (Qzi (dC, dI) 30 a (wdC cI cZ a σ2) sz r) args s 0 0 (aN 30 a sz)) = Q at rt ⊢
  unfold fX5_reach at h
  refine lv_iload_n hx hb dX5_reach_0 rfl (lv_at hl 1 rfl) ?_
  refine lv_if_lt (tgt := 9) hx hb dX5_reach_1 (by decide) (fun c1 => ?_) (fun c1 => ?_)
  · replace h := ite_t c1 h
    refine lv_sipush (v := (-1002 : Int32)) hx hb dX5_reach_9 (by decide) ?_
    exact rt (-1002 : Int32) σ 12 _ _ _ dX5_reach_12 h hz
  · replace h := ite_f c1 h
    refine lv_iload_n hx hb dX5_reach_4 rfl (lv_at hl 1 rfl) ?_
    refine lv_iconst (v := (2 : Int32)) hx hb dX5_reach_5 (by decide) ?_
    refine lv_icmp_le (tgt := 13) hx hb dX5_reach_6 (by decide) (fun c2 => ?_) (fun c2 => ?_)
    · replace h := ite_t c2 h
      refine lv_iload_n hx hb dX5_reach_13 rfl (lv_at hl 2 rfl) ?_
      refine va_gets hx hb hTb.1 hz.2 hown (hts _ (List.mem_of_getElem? (i := 1) rfl)) (fun _ h9 => h9) dX5_reach_14 ?_
      refine lv_iload_n hx hb dX5_reach_17 rfl (lv_at hl 1 rfl) ?_
      obtain ⟨c3, h⟩ := ck_e h
      refine va_ti (v := .int (lr (Int32.toNatClampNeg x1))) hx hb hTb.2.1 hz.2 c3 rfl dX5_reach_18 ?_
      refine lv_icmp_lt (tgt := 31) hx hb dX5_reach_19 (by decide) (fun c4 => ?_) (fun c4 => ?_)
      · replace h := ite_t c4 h
        refine lv_sipush (v := (-1002 : Int32)) hx hb dX5_reach_31 (by decide) ?_
        exact rt (-1002 : Int32) σ 34 _ _ _ dX5_reach_34 h hz
      · replace h := ite_f c4 h
        refine lv_iload_n hx hb dX5_reach_22 rfl (lv_at hl 2 rfl) ?_
        refine va_gets hx hb hTb.2.2.1 hz.2 hown (hts _ (List.mem_of_getElem? (i := 2) rfl)) (fun _ h9 => h9) dX5_reach_23 ?_
        refine lv_iload_n hx hb dX5_reach_26 rfl (lv_at hl 1 rfl) ?_
        obtain ⟨c5, h⟩ := ck_e h
        refine va_ti (v := .int (mr (Int32.toNatClampNeg x1))) hx hb hTb.2.2.2 hz.2 c5 rfl dX5_reach_27 ?_
        refine lv_icmp_le (tgt := 35) hx hb dX5_reach_28 (by decide) (fun c6 => ?_) (fun c6 => ?_)
        · replace h := ite_t c6 h
          refine lv_aload_n hx hb dX5_reach_35 rfl (lv_at hl 0 rfl) ?_
          refine va_get (v := .ref (a 10)) hx hb hts inX5_reach_X5 hown hKK.1 hz.1 0 rfl rfl 3 (by decide) (hts _ (List.mem_of_getElem? (i := 3) rfl)) (fun _ h9 => h9) rfl dX5_reach_36 ?_
          refine lv_iload_n hx hb dX5_reach_39 rfl (lv_at hl 1 rfl) ?_
          obtain ⟨c7, h⟩ := ck_e h
          refine va_iald (f := (σ 10)) hx hb hKK.1 hz.1 10 0 rfl rfl c7 dX5_reach_40 ?_
          refine lv_istore_n (lv' := [(3, .int ((σ 10) (Int32.toNatClampNeg x1))), (0, .ref (a 0)), (1, .int x1), (2, .int x2)]) hx hb dX5_reach_41 rfl hl (by decide) rfl (fun ls hl => ?_)
          refine lv_aload_n hx hb dX5_reach_42 rfl (lv_at hl 1 rfl) ?_
          refine va_get (v := .ref (a 10)) hx hb hts inX5_reach_X5 hown hKK.1 hz.1 0 rfl rfl 3 (by decide) (hts _ (List.mem_of_getElem? (i := 3) rfl)) (fun _ h9 => h9) rfl dX5_reach_43 ?_
          refine lv_iload_n hx hb dX5_reach_46 rfl (lv_at hl 2 rfl) ?_
          refine lv_iload_n hx hb dX5_reach_47 rfl (lv_at hl 3 rfl) ?_
          obtain ⟨c8, h⟩ := ck_e h
          refine ziast (f := σ 10) (w' := wdC cI cZ a (sa σ 10 (Int32.toNatClampNeg x1) x2)) hx hb hKK hok wkC hz 10 rfl c8 setCa_10 dX5_reach_48 (fun H locs hz => ?_)
          refine lv_aload_n hx hb dX5_reach_49 rfl (lv_at hl 1 rfl) ?_
          refine lv_dup hx hb dX5_reach_50 rfl ?_
          refine va_get (v := .int (σ 41 0)) hx hb hts inX5_reach_X5 hown hKK.1 hz.1 0 rfl rfl 6 (by decide) (hts _ (List.mem_of_getElem? (i := 4) rfl)) (fun _ h9 => h9) rfl dX5_reach_51 ?_
          refine lv_iconst (v := (1 : Int32)) hx hb dX5_reach_54 (by decide) ?_
          refine lv_iadd hx hb dX5_reach_55 ?_
          refine zput (ty := .int) (w' := wdC cI cZ a (si (sa σ 10 (Int32.toNatClampNeg x1) x2) 41 ((σ 41 0) + (1 : Int32)))) hx hb hts inX5_reach_X5 tyX5 tyX5_ok nmX5 hown hKK hok wkC hz 0 rfl rfl 6 (by decide) (hts _ (List.mem_of_getElem? (i := 4) rfl)) (fun _ h9 => h9) rfl rfl rfl rfl (Nat.le_of_ble_eq_true rfl) setCi_41 dX5_reach_56 (fun H locs hz => ?_)
          refine lv_aload_n hx hb dX5_reach_59 rfl (lv_at hl 1 rfl) ?_
          refine va_get (v := .ref (a 11)) hx hb hts inX5_reach_X5 hown hKK.1 hz.1 0 rfl rfl 4 (by decide) (hts _ (List.mem_of_getElem? (i := 5) rfl)) (fun _ h9 => h9) rfl dX5_reach_60 ?_
          obtain ⟨s10, e11, h⟩ := bd1_e h
          refine zcallVv (As := []) (rest := []) CF hKK (KX2_placeAll (dC := dC) (dI := dI) (cI := cI) (cZ := cZ) (a := a) hok e11) (cwV 0 hts gX5_reach_X2_placeAll rfl rfl rfl cdX2_placeAll ⟨Nat.le_of_ble_eq_true rfl, Nat.le_of_ble_eq_true rfl⟩) 11 2 rfl rfl hz rfl hl.1 rfl (Nat.le_of_ble_eq_true rfl) dX5_reach_63 ⟨Nat.le_refl _, Nat.le_refl _⟩ (fun H locs hz => ?_)
          refine lv_iload_n hx hb dX5_reach_66 rfl (lv_at hl 0 rfl) ?_
          exact rt ((σ 10) (Int32.toNatClampNeg x1)) s10 67 _ _ _ dX5_reach_67 h hz
        · replace h := ite_f c6 h
          refine lv_sipush (v := (-1002 : Int32)) hx hb dX5_reach_31 (by decide) ?_
          exact rt (-1002 : Int32) σ 34 _ _ _ dX5_reach_34 h hz
    · replace h := ite_f c2 h
      refine lv_sipush (v := (-1002 : Int32)) hx hb dX5_reach_9 (by decide) ?_
      exact rt (-1002 : Int32) σ 12 _ _ _ dX5_reach_12 h hz
def fX5_grow (σ : St) (x1 : Int32) (x2 : Int32) : Option (Int32 × St) :=
  (bd1 (fX0_has_p σ x1) fun r1 => (if r1 = 0 then (some ((-1001 : Int32), σ)) else ((if x2 < (1 : Int32) then (some ((-1002 : Int32), σ)) else ((if x2 ≤ (40 : Int32) then ((bd1 (fX0_kindOf_p σ x1) fun r7 => (if r7 = 0 then ((bd1 (fX0_toldOf_p σ x1) fun r11 => (bd1 (fX0_tell_p σ x1 x2) fun s15 => (bd1 (fX2_placeAll (si s15 41 ((s15 41 0) + (1 : Int32))) ) fun s18 => some (r11, s18))))) else (some ((-1003 : Int32), σ))))) else (some ((-1002 : Int32), σ))))))))
abbrev rmX5_grow : Room := { frames := 6, cells := 0, slots := 0, locals := 138 }
set_option maxHeartbeats 4000000 in
set_option maxRecDepth 100000 in
theorem KX5_grow {l : Launch} {dC : Nat → ClassId} {dI : Nat → Nat → Nat} {cI cZ : ClassId} {a : Nat → Nat} {σ : St} {x1 : Int32} {x2 : Int32} {r : Int32} {σ2 : St} (hok : okA 30 a) (h : fX5_grow σ x1 x2 = some (r, σ2)) (sz : Nat) : Met l yX5_grow wsX5_grow rmX5_grow (Pz (dC, dI) cI cZ (wdC cI cZ a σ) sz [.ref (a 0), .int x1, .int x2]) (Qzi (dC, dI) 30 a (wdC cI cZ a σ2) sz r) 0 0 (aN 30 a sz) := by
  refine Met.ofW (cc := cX5_grow) (maxL := 4) (ret := (some .int)) (by decide) rfl ?_
  intro p e s m args below meth c s₁ B hml hv
  obtain ⟨hav, hsz, hP, hKK⟩ := hv
  have hx := B.exec
  have hb := B.bytes
  have hr := B.returns
  have hts := atoms_spec (ws := wsX5_grow) B.pre
  have hown : s.vm.findClass RX5 = some m.cls := findClass_of_methodNamed B.named
  have hlocks := B.notSynchronized
  have CF : CallFix p m c cX5_grow 4 s args wsX5_grow RX5 := ⟨hx, hb, hml, hown, hts⟩
  have hz : zz (dC, dI) 30 a (wdC cI cZ a σ) s.heap s.heap [] := ⟨hP, va_S.rf⟩
  have hl := lv_entry [.ref (a 0), .int x1, .int x2] (n := 4) (Nat.le_of_ble_eq_true rfl)
  have hen : entryFrame m args 4 = entryFrame m ([.ref (a 0), .int x1, .int x2] : List Value).toArray 4 := by rw [hav]
  rw [hen, lg_entry_eq]
  generalize (lg_sl [.ref (a 0), .int x1, .int x2] ++ List.replicate (4 - (lg_sl [.ref (a 0), .int x1, .int x2]).length) Slot.unset).toArray = ls at hl ⊢
  have hl : lv_has ls 4 [(0, .ref (a 0)), (1, .int x1), (2, .int x2)] := hl
  have eR : (headSpec wsX5_grow rmX5_grow).room = rmX5_grow := rfl
  rw [eR]
  have rt : ∀ (v : Int32) (t : St) (pc : Nat) (H : Heap) (locs : List Loc) (ls : Array Slot), decode cX5_grow pc = .ok (.ireturn, 1) → some (v, t) = some (r, σ2) → zz (dC, dI) 30 a (wdC cI cZ a t) s.heap H locs → W p l e rmX5_grow s m args below meth c H locs 0 0 (MQ below (Qzi (dC, dI) 30 a (wdC cI cZ a σ2) sz r) args s 0 0 (aN 30 a sz)) (F0 m pc ls [.int v]) := by
    intro v t pc H locs ls hd h hz
    cases h
    exact ziret hsz hx hb hr hlocks hz hd
  generalize (MQ below (Qzi (dC, dI) 30 a (wdC cI cZ a σ2) sz r) args s 0 0 (aN 30 a sz)) = Q at rt ⊢
  unfold fX5_grow at h
  refine lv_aload_n hx hb dX5_grow_0 rfl (lv_at hl 0 rfl) ?_
  refine va_get (v := .ref (a 7)) hx hb hts inX5_grow_X5 hown hKK.1 hz.1 0 rfl rfl 2 (by decide) (hts _ (List.mem_of_getElem? (i := 1) rfl)) (fun _ h9 => h9) rfl dX5_grow_1 ?_
  refine lv_iload_n hx hb dX5_grow_4 rfl (lv_at hl 1 rfl) ?_
  obtain ⟨r1, e3, h⟩ := bd1_e h
  refine zcallVi (As := [.int x1]) (rest := []) CF hKK (KX0_has_p (dC := dC) (dI := dI) (cI := cI) (cZ := cZ) (a := a) hok e3) (cwV 1 hts gX5_grow_X0_has rfl rfl rfl cdX0_has ⟨Nat.le_of_ble_eq_true rfl, Nat.le_of_ble_eq_true rfl⟩) 7 0 rfl rfl hz rfl hl.1 rfl (Nat.le_of_ble_eq_true rfl) dX5_grow_5 ⟨Nat.le_refl _, Nat.le_refl _⟩ (fun H locs hz => ?_)
  refine lv_if_ne (tgt := 15) hx hb dX5_grow_8 (by decide) (fun c4 => ?_) (fun c4 => ?_)
  · replace h := ite_f c4 h
    refine lv_iload_n hx hb dX5_grow_15 rfl (lv_at hl 2 rfl) ?_
    refine lv_iconst (v := (1 : Int32)) hx hb dX5_grow_16 (by decide) ?_
    refine lv_icmp_lt (tgt := 26) hx hb dX5_grow_17 (by decide) (fun c5 => ?_) (fun c5 => ?_)
    · replace h := ite_t c5 h
      refine lv_sipush (v := (-1002 : Int32)) hx hb dX5_grow_26 (by decide) ?_
      exact rt (-1002 : Int32) σ 29 _ _ _ dX5_grow_29 h hz
    · replace h := ite_f c5 h
      refine lv_iload_n hx hb dX5_grow_20 rfl (lv_at hl 2 rfl) ?_
      refine lv_bipush (v := (40 : Int32)) hx hb dX5_grow_21 (by decide) ?_
      refine lv_icmp_le (tgt := 30) hx hb dX5_grow_23 (by decide) (fun c6 => ?_) (fun c6 => ?_)
      · replace h := ite_t c6 h
        refine lv_aload_n hx hb dX5_grow_30 rfl (lv_at hl 0 rfl) ?_
        refine va_get (v := .ref (a 7)) hx hb hts inX5_grow_X5 hown hKK.1 hz.1 0 rfl rfl 2 (by decide) (hts _ (List.mem_of_getElem? (i := 1) rfl)) (fun _ h9 => h9) rfl dX5_grow_31 ?_
        refine lv_iload_n hx hb dX5_grow_34 rfl (lv_at hl 1 rfl) ?_
        obtain ⟨r7, e9, h⟩ := bd1_e h
        refine zcallVi (As := [.int x1]) (rest := []) CF hKK (KX0_kindOf_p (dC := dC) (dI := dI) (cI := cI) (cZ := cZ) (a := a) hok e9) (cwV 1 hts gX5_grow_X0_kindOf rfl rfl rfl cdX0_kindOf ⟨Nat.le_of_ble_eq_true rfl, Nat.le_of_ble_eq_true rfl⟩) 7 0 rfl rfl hz rfl hl.1 rfl (Nat.le_of_ble_eq_true rfl) dX5_grow_35 ⟨Nat.le_refl _, Nat.le_refl _⟩ (fun H locs hz => ?_)
        refine lv_if_eq (tgt := 45) hx hb dX5_grow_38 (by decide) (fun c10 => ?_) (fun c10 => ?_)
        · replace h := ite_t c10 h
          refine lv_aload_n hx hb dX5_grow_45 rfl (lv_at hl 0 rfl) ?_
          refine va_get (v := .ref (a 7)) hx hb hts inX5_grow_X5 hown hKK.1 hz.1 0 rfl rfl 2 (by decide) (hts _ (List.mem_of_getElem? (i := 1) rfl)) (fun _ h9 => h9) rfl dX5_grow_46 ?_
          refine lv_iload_n hx hb dX5_grow_49 rfl (lv_at hl 1 rfl) ?_
          obtain ⟨r11, e13, h⟩ := bd1_e h
          refine zcallVi (As := [.int x1]) (rest := []) CF hKK (KX0_toldOf_p (dC := dC) (dI := dI) (cI := cI) (cZ := cZ) (a := a) hok e13) (cwV 1 hts gX5_grow_X0_toldOf rfl rfl rfl cdX0_toldOf ⟨Nat.le_of_ble_eq_true rfl, Nat.le_of_ble_eq_true rfl⟩) 7 0 rfl rfl hz rfl hl.1 rfl (Nat.le_of_ble_eq_true rfl) dX5_grow_50 ⟨Nat.le_refl _, Nat.le_refl _⟩ (fun H locs hz => ?_)
          refine lv_istore_n (lv' := [(3, .int r11), (0, .ref (a 0)), (1, .int x1), (2, .int x2)]) hx hb dX5_grow_53 rfl hl (by decide) rfl (fun ls hl => ?_)
          refine lv_aload_n hx hb dX5_grow_54 rfl (lv_at hl 1 rfl) ?_
          refine va_get (v := .ref (a 7)) hx hb hts inX5_grow_X5 hown hKK.1 hz.1 0 rfl rfl 2 (by decide) (hts _ (List.mem_of_getElem? (i := 1) rfl)) (fun _ h9 => h9) rfl dX5_grow_55 ?_
          refine lv_iload_n hx hb dX5_grow_58 rfl (lv_at hl 2 rfl) ?_
          refine lv_iload_n hx hb dX5_grow_59 rfl (lv_at hl 3 rfl) ?_
          obtain ⟨s15, e16, h⟩ := bd1_e h
          refine zcallVv (As := [.int x1, .int x2]) (rest := []) CF hKK (KX0_tell_p (dC := dC) (dI := dI) (cI := cI) (cZ := cZ) (a := a) hok e16) (cwV 2 hts gX5_grow_X0_tell rfl rfl rfl cdX0_tell ⟨Nat.le_of_ble_eq_true rfl, Nat.le_of_ble_eq_true rfl⟩) 7 0 rfl rfl hz rfl hl.1 rfl (Nat.le_of_ble_eq_true rfl) dX5_grow_60 ⟨Nat.le_refl _, Nat.le_refl _⟩ (fun H locs hz => ?_)
          refine lv_aload_n hx hb dX5_grow_63 rfl (lv_at hl 1 rfl) ?_
          refine lv_dup hx hb dX5_grow_64 rfl ?_
          refine va_get (v := .int (s15 41 0)) hx hb hts inX5_grow_X5 hown hKK.1 hz.1 0 rfl rfl 6 (by decide) (hts _ (List.mem_of_getElem? (i := 2) rfl)) (fun _ h9 => h9) rfl dX5_grow_65 ?_
          refine lv_iconst (v := (1 : Int32)) hx hb dX5_grow_68 (by decide) ?_
          refine lv_iadd hx hb dX5_grow_69 ?_
          refine zput (ty := .int) (w' := wdC cI cZ a (si s15 41 ((s15 41 0) + (1 : Int32)))) hx hb hts inX5_grow_X5 tyX5 tyX5_ok nmX5 hown hKK hok wkC hz 0 rfl rfl 6 (by decide) (hts _ (List.mem_of_getElem? (i := 2) rfl)) (fun _ h9 => h9) rfl rfl rfl rfl (Nat.le_of_ble_eq_true rfl) setCi_41 dX5_grow_70 (fun H locs hz => ?_)
          refine lv_aload_n hx hb dX5_grow_73 rfl (lv_at hl 1 rfl) ?_
          refine va_get (v := .ref (a 11)) hx hb hts inX5_grow_X5 hown hKK.1 hz.1 0 rfl rfl 4 (by decide) (hts _ (List.mem_of_getElem? (i := 3) rfl)) (fun _ h9 => h9) rfl dX5_grow_74 ?_
          obtain ⟨s18, e19, h⟩ := bd1_e h
          refine zcallVv (As := []) (rest := []) CF hKK (KX2_placeAll (dC := dC) (dI := dI) (cI := cI) (cZ := cZ) (a := a) hok e19) (cwV 0 hts gX5_grow_X2_placeAll rfl rfl rfl cdX2_placeAll ⟨Nat.le_of_ble_eq_true rfl, Nat.le_of_ble_eq_true rfl⟩) 11 2 rfl rfl hz rfl hl.1 rfl (Nat.le_of_ble_eq_true rfl) dX5_grow_77 ⟨Nat.le_refl _, Nat.le_refl _⟩ (fun H locs hz => ?_)
          refine lv_iload_n hx hb dX5_grow_80 rfl (lv_at hl 0 rfl) ?_
          exact rt r11 s18 81 _ _ _ dX5_grow_81 h hz
        · replace h := ite_f c10 h
          refine lv_sipush (v := (-1003 : Int32)) hx hb dX5_grow_41 (by decide) ?_
          exact rt (-1003 : Int32) σ 44 _ _ _ dX5_grow_44 h hz
      · replace h := ite_f c6 h
        refine lv_sipush (v := (-1002 : Int32)) hx hb dX5_grow_26 (by decide) ?_
        exact rt (-1002 : Int32) σ 29 _ _ _ dX5_grow_29 h hz
  · replace h := ite_t c4 h
    refine lv_sipush (v := (-1001 : Int32)) hx hb dX5_grow_11 (by decide) ?_
    exact rt (-1001 : Int32) σ 14 _ _ _ dX5_grow_14 h hz
