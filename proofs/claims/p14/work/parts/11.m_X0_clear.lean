def fX0_clear_r (σ : St)  : Option (St) :=
  some (si (si σ 46 (0 : Int32)) 47 (0 : Int32))
abbrev rmX0_clear_r : Room := { frames := 0, cells := 0, slots := 0, locals := 0 }
set_option maxHeartbeats 4000000 in
set_option maxRecDepth 100000 in
theorem KX0_clear_r {l : Launch} {dC : Nat → ClassId} {dI : Nat → Nat → Nat} {cI cZ : ClassId} {a : Nat → Nat} {σ : St}  {σ2 : St} (hok : okA 30 a) (h : fX0_clear_r σ  = some σ2) (sz : Nat) : Met l yX0_clear wsX0_clear rmX0_clear_r (Pz (dC, dI) cI cZ (wdC cI cZ a σ) sz [.ref (a 4)]) (Qzv (dC, dI) 30 a (wdC cI cZ a σ2) sz) 0 0 (aN 30 a sz) := by
  refine Met.ofW (cc := cX0_clear) (maxL := 1) (ret := none) (by decide) rfl ?_
  intro p e s m args below meth c s₁ B hml hv
  obtain ⟨hav, hsz, hP, hKK⟩ := hv
  have hx := B.exec
  have hb := B.bytes
  have hr := B.returns
  have hts := atoms_spec (ws := wsX0_clear) B.pre
  have hown : s.vm.findClass RX0 = some m.cls := findClass_of_methodNamed B.named
  have hlocks := B.notSynchronized
  have CF : CallFix p m c cX0_clear 1 s args wsX0_clear RX0 := ⟨hx, hb, hml, hown, hts⟩
  have hz : zz (dC, dI) 30 a (wdC cI cZ a σ) s.heap s.heap [] := ⟨hP, va_S.rf⟩
  have hl := lv_entry [.ref (a 4)] (n := 1) (Nat.le_of_ble_eq_true rfl)
  have hen : entryFrame m args 1 = entryFrame m ([.ref (a 4)] : List Value).toArray 1 := by rw [hav]
  rw [hen, lg_entry_eq]
  generalize (lg_sl [.ref (a 4)] ++ List.replicate (1 - (lg_sl [.ref (a 4)]).length) Slot.unset).toArray = ls at hl ⊢
  have hl : lv_has ls 1 [(0, .ref (a 4))] := hl
  have eR : (headSpec wsX0_clear rmX0_clear_r).room = rmX0_clear_r := rfl
  rw [eR]
  have rt : ∀ (t : St) (pc : Nat) (H : Heap) (locs : List Loc) (ls : Array Slot), decode cX0_clear pc = .ok (.return_, 1) → some t = some σ2 → zz (dC, dI) 30 a (wdC cI cZ a t) s.heap H locs → W p l e rmX0_clear_r s m args below meth c H locs 0 0 (MQ below (Qzv (dC, dI) 30 a (wdC cI cZ a σ2) sz) args s 0 0 (aN 30 a sz)) (F0 m pc ls []) := by
    intro t pc H locs ls hd h hz
    cases h
    exact zvret hsz hx hb hr hlocks hz hd
  generalize (MQ below (Qzv (dC, dI) 30 a (wdC cI cZ a σ2) sz) args s 0 0 (aN 30 a sz)) = Q at rt ⊢
  unfold fX0_clear_r at h
  refine lv_aload_n hx hb dX0_clear_0 rfl (lv_at hl 0 rfl) ?_
  refine lv_iconst (v := (0 : Int32)) hx hb dX0_clear_1 (by decide) ?_
  refine zput (ty := .int) (w' := wdC cI cZ a (si σ 46 (0 : Int32))) hx hb hts inX0_clear_X0 tyX0 tyX0_ok nmX0 hown hKK hok wkC hz 4 rfl rfl 2 (by decide) (hts _ (List.mem_of_getElem? (i := 1) rfl)) (fun _ h9 => h9) rfl rfl rfl rfl (Nat.le_of_ble_eq_true rfl) setCi_46 dX0_clear_2 (fun H locs hz => ?_)
  refine lv_aload_n hx hb dX0_clear_5 rfl (lv_at hl 0 rfl) ?_
  refine lv_iconst (v := (0 : Int32)) hx hb dX0_clear_6 (by decide) ?_
  refine zput (ty := .int) (w' := wdC cI cZ a (si (si σ 46 (0 : Int32)) 47 (0 : Int32))) hx hb hts inX0_clear_X0 tyX0 tyX0_ok nmX0 hown hKK hok wkC hz 4 rfl rfl 3 (by decide) (hts _ (List.mem_of_getElem? (i := 2) rfl)) (fun _ h9 => h9) rfl rfl rfl rfl (Nat.le_of_ble_eq_true rfl) setCi_47 dX0_clear_7 (fun H locs hz => ?_)
  exact rt (si (si σ 46 (0 : Int32)) 47 (0 : Int32)) 10 _ _ _ dX0_clear_10 h hz
def fX0_clear_p (σ : St)  : Option (St) :=
  some (si (si σ 48 (0 : Int32)) 49 (0 : Int32))
abbrev rmX0_clear_p : Room := { frames := 0, cells := 0, slots := 0, locals := 0 }
set_option maxHeartbeats 4000000 in
set_option maxRecDepth 100000 in
theorem KX0_clear_p {l : Launch} {dC : Nat → ClassId} {dI : Nat → Nat → Nat} {cI cZ : ClassId} {a : Nat → Nat} {σ : St}  {σ2 : St} (hok : okA 30 a) (h : fX0_clear_p σ  = some σ2) (sz : Nat) : Met l yX0_clear wsX0_clear rmX0_clear_p (Pz (dC, dI) cI cZ (wdC cI cZ a σ) sz [.ref (a 7)]) (Qzv (dC, dI) 30 a (wdC cI cZ a σ2) sz) 0 0 (aN 30 a sz) := by
  refine Met.ofW (cc := cX0_clear) (maxL := 1) (ret := none) (by decide) rfl ?_
  intro p e s m args below meth c s₁ B hml hv
  obtain ⟨hav, hsz, hP, hKK⟩ := hv
  have hx := B.exec
  have hb := B.bytes
  have hr := B.returns
  have hts := atoms_spec (ws := wsX0_clear) B.pre
  have hown : s.vm.findClass RX0 = some m.cls := findClass_of_methodNamed B.named
  have hlocks := B.notSynchronized
  have CF : CallFix p m c cX0_clear 1 s args wsX0_clear RX0 := ⟨hx, hb, hml, hown, hts⟩
  have hz : zz (dC, dI) 30 a (wdC cI cZ a σ) s.heap s.heap [] := ⟨hP, va_S.rf⟩
  have hl := lv_entry [.ref (a 7)] (n := 1) (Nat.le_of_ble_eq_true rfl)
  have hen : entryFrame m args 1 = entryFrame m ([.ref (a 7)] : List Value).toArray 1 := by rw [hav]
  rw [hen, lg_entry_eq]
  generalize (lg_sl [.ref (a 7)] ++ List.replicate (1 - (lg_sl [.ref (a 7)]).length) Slot.unset).toArray = ls at hl ⊢
  have hl : lv_has ls 1 [(0, .ref (a 7))] := hl
  have eR : (headSpec wsX0_clear rmX0_clear_p).room = rmX0_clear_p := rfl
  rw [eR]
  have rt : ∀ (t : St) (pc : Nat) (H : Heap) (locs : List Loc) (ls : Array Slot), decode cX0_clear pc = .ok (.return_, 1) → some t = some σ2 → zz (dC, dI) 30 a (wdC cI cZ a t) s.heap H locs → W p l e rmX0_clear_p s m args below meth c H locs 0 0 (MQ below (Qzv (dC, dI) 30 a (wdC cI cZ a σ2) sz) args s 0 0 (aN 30 a sz)) (F0 m pc ls []) := by
    intro t pc H locs ls hd h hz
    cases h
    exact zvret hsz hx hb hr hlocks hz hd
  generalize (MQ below (Qzv (dC, dI) 30 a (wdC cI cZ a σ2) sz) args s 0 0 (aN 30 a sz)) = Q at rt ⊢
  unfold fX0_clear_p at h
  refine lv_aload_n hx hb dX0_clear_0 rfl (lv_at hl 0 rfl) ?_
  refine lv_iconst (v := (0 : Int32)) hx hb dX0_clear_1 (by decide) ?_
  refine zput (ty := .int) (w' := wdC cI cZ a (si σ 48 (0 : Int32))) hx hb hts inX0_clear_X0 tyX0 tyX0_ok nmX0 hown hKK hok wkC hz 7 rfl rfl 2 (by decide) (hts _ (List.mem_of_getElem? (i := 1) rfl)) (fun _ h9 => h9) rfl rfl rfl rfl (Nat.le_of_ble_eq_true rfl) setCi_48 dX0_clear_2 (fun H locs hz => ?_)
  refine lv_aload_n hx hb dX0_clear_5 rfl (lv_at hl 0 rfl) ?_
  refine lv_iconst (v := (0 : Int32)) hx hb dX0_clear_6 (by decide) ?_
  refine zput (ty := .int) (w' := wdC cI cZ a (si (si σ 48 (0 : Int32)) 49 (0 : Int32))) hx hb hts inX0_clear_X0 tyX0 tyX0_ok nmX0 hown hKK hok wkC hz 7 rfl rfl 3 (by decide) (hts _ (List.mem_of_getElem? (i := 2) rfl)) (fun _ h9 => h9) rfl rfl rfl rfl (Nat.le_of_ble_eq_true rfl) setCi_49 dX0_clear_7 (fun H locs hz => ?_)
  exact rt (si (si σ 48 (0 : Int32)) 49 (0 : Int32)) 10 _ _ _ dX0_clear_10 h hz
def fX0_add_r_b68  (σ : St) : Option (Int32 × St) :=
  some ((1 : Int32), (si σ 46 ((σ 46 0) + (1 : Int32))))
def fX0_add_r (σ : St) (x1 : Int32) (x2 : Int32) : Option (Int32 × St) :=
  (if (σ 46 0) < 0 then (some ((0 : Int32), σ)) else ((if (24 : Int32) ≤ (σ 46 0) then (some ((0 : Int32), σ)) else ((if (σ 46 0) < (24 : Int32) then ((ck (¬ ((σ 46 0) < 0 ∨ 24 ≤ Int32.toNatClampNeg (σ 46 0))) <| (ck (¬ ((σ 46 0) < 0 ∨ 24 ≤ Int32.toNatClampNeg (σ 46 0))) <| (if x1 = (5 : Int32) then (fX0_add_r_b68  (si (sa (sa σ 5 (Int32.toNatClampNeg (σ 46 0)) x1) 6 (Int32.toNatClampNeg (σ 46 0)) x2) 47 ((σ 47 0) + (1 : Int32)))) else (fX0_add_r_b68  (sa (sa σ 5 (Int32.toNatClampNeg (σ 46 0)) x1) 6 (Int32.toNatClampNeg (σ 46 0)) x2)))))) else (some ((0 : Int32), σ)))))))
abbrev rmX0_add_r : Room := { frames := 0, cells := 0, slots := 0, locals := 0 }
set_option maxHeartbeats 4000000 in
set_option maxRecDepth 100000 in
theorem KX0_add_r {l : Launch} {dC : Nat → ClassId} {dI : Nat → Nat → Nat} {cI cZ : ClassId} {a : Nat → Nat} {σ : St} {x1 : Int32} {x2 : Int32} {r : Int32} {σ2 : St} (hok : okA 30 a) (h : fX0_add_r σ x1 x2 = some (r, σ2)) (sz : Nat) : Met l yX0_add wsX0_add rmX0_add_r (Pz (dC, dI) cI cZ (wdC cI cZ a σ) sz [.ref (a 4), .int x1, .int x2]) (Qzi (dC, dI) 30 a (wdC cI cZ a σ2) sz r) 0 0 (aN 30 a sz) := by
  refine Met.ofW (cc := cX0_add) (maxL := 3) (ret := (some .boolean)) (by decide) rfl ?_
  intro p e s m args below meth c s₁ B hml hv
  obtain ⟨hav, hsz, hP, hKK⟩ := hv
  have hx := B.exec
  have hb := B.bytes
  have hr := B.returns
  have hts := atoms_spec (ws := wsX0_add) B.pre
  have hown : s.vm.findClass RX0 = some m.cls := findClass_of_methodNamed B.named
  have hlocks := B.notSynchronized
  have CF : CallFix p m c cX0_add 3 s args wsX0_add RX0 := ⟨hx, hb, hml, hown, hts⟩
  have hz : zz (dC, dI) 30 a (wdC cI cZ a σ) s.heap s.heap [] := ⟨hP, va_S.rf⟩
  have hl := lv_entry [.ref (a 4), .int x1, .int x2] (n := 3) (Nat.le_of_ble_eq_true rfl)
  have hen : entryFrame m args 3 = entryFrame m ([.ref (a 4), .int x1, .int x2] : List Value).toArray 3 := by rw [hav]
  rw [hen, lg_entry_eq]
  generalize (lg_sl [.ref (a 4), .int x1, .int x2] ++ List.replicate (3 - (lg_sl [.ref (a 4), .int x1, .int x2]).length) Slot.unset).toArray = ls at hl ⊢
  have hl : lv_has ls 3 [(0, .ref (a 4)), (1, .int x1), (2, .int x2)] := hl
  have eR : (headSpec wsX0_add rmX0_add_r).room = rmX0_add_r := rfl
  rw [eR]
  have rt : ∀ (v : Int32) (t : St) (pc : Nat) (H : Heap) (locs : List Loc) (ls : Array Slot), decode cX0_add pc = .ok (.ireturn, 1) → some (v, t) = some (r, σ2) → zz (dC, dI) 30 a (wdC cI cZ a t) s.heap H locs → (v = 0 ∨ v = 1) → W p l e rmX0_add_r s m args below meth c H locs 0 0 (MQ below (Qzi (dC, dI) 30 a (wdC cI cZ a σ2) sz r) args s 0 0 (aN 30 a sz)) (F0 m pc ls [.int v]) := by
    intro v t pc H locs ls hd h hz hv
    cases h
    exact zzret hsz hx hb hr hlocks hv hz hd
  generalize (MQ below (Qzi (dC, dI) 30 a (wdC cI cZ a σ2) sz r) args s 0 0 (aN 30 a sz)) = Q at rt ⊢
  have b68 : ∀  (σ : St) (H : Heap) (locs : List Loc) (ls : Array Slot), fX0_add_r_b68  σ = some (r, σ2) → zz (dC, dI) 30 a (wdC cI cZ a σ) s.heap H locs → lv_has ls 3 [(0, .ref (a 4))] → W p l e rmX0_add_r s m args below meth c H locs 0 0 Q (F0 m 68 ls []) := by
    intro  σ H locs ls h hz hl
    unfold fX0_add_r_b68 at h
    refine lv_aload_n hx hb dX0_add_68 rfl (lv_at hl 0 rfl) ?_
    refine lv_dup hx hb dX0_add_69 rfl ?_
    refine va_get (v := .int (σ 46 0)) hx hb hts inX0_add_X0 hown hKK.1 hz.1 4 rfl rfl 2 (by decide) (hts _ (List.mem_of_getElem? (i := 1) rfl)) (fun _ h9 => h9) rfl dX0_add_70 ?_
    refine lv_iconst (v := (1 : Int32)) hx hb dX0_add_73 (by decide) ?_
    refine lv_iadd hx hb dX0_add_74 ?_
    refine zput (ty := .int) (w' := wdC cI cZ a (si σ 46 ((σ 46 0) + (1 : Int32)))) hx hb hts inX0_add_X0 tyX0 tyX0_ok nmX0 hown hKK hok wkC hz 4 rfl rfl 2 (by decide) (hts _ (List.mem_of_getElem? (i := 1) rfl)) (fun _ h9 => h9) rfl rfl rfl rfl (Nat.le_of_ble_eq_true rfl) setCi_46 dX0_add_75 (fun H locs hz => ?_)
    refine lv_iconst (v := (1 : Int32)) hx hb dX0_add_78 (by decide) ?_
    exact rt (1 : Int32) (si σ 46 ((σ 46 0) + (1 : Int32))) 79 _ _ _ dX0_add_79 h hz (Or.inr rfl)
  unfold fX0_add_r at h
  refine lv_aload_n hx hb dX0_add_0 rfl (lv_at hl 0 rfl) ?_
  refine va_get (v := .int (σ 46 0)) hx hb hts inX0_add_X0 hown hKK.1 hz.1 4 rfl rfl 2 (by decide) (hts _ (List.mem_of_getElem? (i := 1) rfl)) (fun _ h9 => h9) rfl dX0_add_1 ?_
  refine lv_if_lt (tgt := 31) hx hb dX0_add_4 (by decide) (fun c1 => ?_) (fun c1 => ?_)
  · replace h := ite_t c1 h
    refine lv_iconst (v := (0 : Int32)) hx hb dX0_add_31 (by decide) ?_
    exact rt (0 : Int32) σ 32 _ _ _ dX0_add_32 h hz (Or.inl rfl)
  · replace h := ite_f c1 h
    refine lv_aload_n hx hb dX0_add_7 rfl (lv_at hl 0 rfl) ?_
    refine va_get (v := .int (σ 46 0)) hx hb hts inX0_add_X0 hown hKK.1 hz.1 4 rfl rfl 2 (by decide) (hts _ (List.mem_of_getElem? (i := 1) rfl)) (fun _ h9 => h9) rfl dX0_add_8 ?_
    refine lv_aload_n hx hb dX0_add_11 rfl (lv_at hl 0 rfl) ?_
    refine va_get (v := .ref (a 5)) hx hb hts inX0_add_X0 hown hKK.1 hz.1 4 rfl rfl 0 (by decide) (hts _ (List.mem_of_getElem? (i := 2) rfl)) (fun _ h9 => h9) rfl dX0_add_12 ?_
    refine va_alen (v := (24 : Int32)) hx hb hKK.1 hz.1 5 0 rfl rfl rfl dX0_add_15 ?_
    refine lv_icmp_ge (tgt := 31) hx hb dX0_add_16 (by decide) (fun c2 => ?_) (fun c2 => ?_)
    · replace h := ite_t c2 h
      refine lv_iconst (v := (0 : Int32)) hx hb dX0_add_31 (by decide) ?_
      exact rt (0 : Int32) σ 32 _ _ _ dX0_add_32 h hz (Or.inl rfl)
    · replace h := ite_f c2 h
      refine lv_aload_n hx hb dX0_add_19 rfl (lv_at hl 0 rfl) ?_
      refine va_get (v := .int (σ 46 0)) hx hb hts inX0_add_X0 hown hKK.1 hz.1 4 rfl rfl 2 (by decide) (hts _ (List.mem_of_getElem? (i := 1) rfl)) (fun _ h9 => h9) rfl dX0_add_20 ?_
      refine lv_aload_n hx hb dX0_add_23 rfl (lv_at hl 0 rfl) ?_
      refine va_get (v := .ref (a 6)) hx hb hts inX0_add_X0 hown hKK.1 hz.1 4 rfl rfl 1 (by decide) (hts _ (List.mem_of_getElem? (i := 3) rfl)) (fun _ h9 => h9) rfl dX0_add_24 ?_
      refine va_alen (v := (24 : Int32)) hx hb hKK.1 hz.1 6 0 rfl rfl rfl dX0_add_27 ?_
      refine lv_icmp_lt (tgt := 33) hx hb dX0_add_28 (by decide) (fun c3 => ?_) (fun c3 => ?_)
      · replace h := ite_t c3 h
        refine lv_aload_n hx hb dX0_add_33 rfl (lv_at hl 0 rfl) ?_
        refine va_get (v := .ref (a 5)) hx hb hts inX0_add_X0 hown hKK.1 hz.1 4 rfl rfl 0 (by decide) (hts _ (List.mem_of_getElem? (i := 2) rfl)) (fun _ h9 => h9) rfl dX0_add_34 ?_
        refine lv_aload_n hx hb dX0_add_37 rfl (lv_at hl 0 rfl) ?_
        refine va_get (v := .int (σ 46 0)) hx hb hts inX0_add_X0 hown hKK.1 hz.1 4 rfl rfl 2 (by decide) (hts _ (List.mem_of_getElem? (i := 1) rfl)) (fun _ h9 => h9) rfl dX0_add_38 ?_
        refine lv_iload_n hx hb dX0_add_41 rfl (lv_at hl 1 rfl) ?_
        obtain ⟨c4, h⟩ := ck_e h
        refine ziast (f := σ 5) (w' := wdC cI cZ a (sa σ 5 (Int32.toNatClampNeg (σ 46 0)) x1)) hx hb hKK hok wkC hz 5 rfl c4 setCa_5 dX0_add_42 (fun H locs hz => ?_)
        refine lv_aload_n hx hb dX0_add_43 rfl (lv_at hl 0 rfl) ?_
        refine va_get (v := .ref (a 6)) hx hb hts inX0_add_X0 hown hKK.1 hz.1 4 rfl rfl 1 (by decide) (hts _ (List.mem_of_getElem? (i := 3) rfl)) (fun _ h9 => h9) rfl dX0_add_44 ?_
        refine lv_aload_n hx hb dX0_add_47 rfl (lv_at hl 0 rfl) ?_
        refine va_get (v := .int (σ 46 0)) hx hb hts inX0_add_X0 hown hKK.1 hz.1 4 rfl rfl 2 (by decide) (hts _ (List.mem_of_getElem? (i := 1) rfl)) (fun _ h9 => h9) rfl dX0_add_48 ?_
        refine lv_iload_n hx hb dX0_add_51 rfl (lv_at hl 2 rfl) ?_
        obtain ⟨c5, h⟩ := ck_e h
        refine ziast (f := (sa σ 5 (Int32.toNatClampNeg (σ 46 0)) x1) 6) (w' := wdC cI cZ a (sa (sa σ 5 (Int32.toNatClampNeg (σ 46 0)) x1) 6 (Int32.toNatClampNeg (σ 46 0)) x2)) hx hb hKK hok wkC hz 6 rfl c5 setCa_6 dX0_add_52 (fun H locs hz => ?_)
        refine lv_iload_n hx hb dX0_add_53 rfl (lv_at hl 1 rfl) ?_
        refine lv_iconst (v := (5 : Int32)) hx hb dX0_add_54 (by decide) ?_
        refine lv_icmp_ne (tgt := 68) hx hb dX0_add_55 (by decide) (fun c6 => ?_) (fun c6 => ?_)
        · replace h := ite_f c6 h
          exact b68  (sa (sa σ 5 (Int32.toNatClampNeg (σ 46 0)) x1) 6 (Int32.toNatClampNeg (σ 46 0)) x2) _ _ _ h hz (lv_sub hl [0] rfl)
        · replace h := ite_t c6 h
          refine lv_aload_n hx hb dX0_add_58 rfl (lv_at hl 0 rfl) ?_
          refine lv_dup hx hb dX0_add_59 rfl ?_
          refine va_get (v := .int (σ 47 0)) hx hb hts inX0_add_X0 hown hKK.1 hz.1 4 rfl rfl 3 (by decide) (hts _ (List.mem_of_getElem? (i := 4) rfl)) (fun _ h9 => h9) rfl dX0_add_60 ?_
          refine lv_iconst (v := (1 : Int32)) hx hb dX0_add_63 (by decide) ?_
          refine lv_iadd hx hb dX0_add_64 ?_
          refine zput (ty := .int) (w' := wdC cI cZ a (si (sa (sa σ 5 (Int32.toNatClampNeg (σ 46 0)) x1) 6 (Int32.toNatClampNeg (σ 46 0)) x2) 47 ((σ 47 0) + (1 : Int32)))) hx hb hts inX0_add_X0 tyX0 tyX0_ok nmX0 hown hKK hok wkC hz 4 rfl rfl 3 (by decide) (hts _ (List.mem_of_getElem? (i := 4) rfl)) (fun _ h9 => h9) rfl rfl rfl rfl (Nat.le_of_ble_eq_true rfl) setCi_47 dX0_add_65 (fun H locs hz => ?_)
          exact b68  (si (sa (sa σ 5 (Int32.toNatClampNeg (σ 46 0)) x1) 6 (Int32.toNatClampNeg (σ 46 0)) x2) 47 ((σ 47 0) + (1 : Int32))) _ _ _ h hz (lv_sub hl [0] rfl)
      · replace h := ite_f c3 h
        refine lv_iconst (v := (0 : Int32)) hx hb dX0_add_31 (by decide) ?_
        exact rt (0 : Int32) σ 32 _ _ _ dX0_add_32 h hz (Or.inl rfl)
def fX0_add_p_b68  (σ : St) : Option (Int32 × St) :=
  some ((1 : Int32), (si σ 48 ((σ 48 0) + (1 : Int32))))
def fX0_add_p (σ : St) (x1 : Int32) (x2 : Int32) : Option (Int32 × St) :=
  (if (σ 48 0) < 0 then (some ((0 : Int32), σ)) else ((if (24 : Int32) ≤ (σ 48 0) then (some ((0 : Int32), σ)) else ((if (σ 48 0) < (24 : Int32) then ((ck (¬ ((σ 48 0) < 0 ∨ 24 ≤ Int32.toNatClampNeg (σ 48 0))) <| (ck (¬ ((σ 48 0) < 0 ∨ 24 ≤ Int32.toNatClampNeg (σ 48 0))) <| (if x1 = (5 : Int32) then (fX0_add_p_b68  (si (sa (sa σ 8 (Int32.toNatClampNeg (σ 48 0)) x1) 9 (Int32.toNatClampNeg (σ 48 0)) x2) 49 ((σ 49 0) + (1 : Int32)))) else (fX0_add_p_b68  (sa (sa σ 8 (Int32.toNatClampNeg (σ 48 0)) x1) 9 (Int32.toNatClampNeg (σ 48 0)) x2)))))) else (some ((0 : Int32), σ)))))))
abbrev rmX0_add_p : Room := { frames := 0, cells := 0, slots := 0, locals := 0 }
set_option maxHeartbeats 4000000 in
set_option maxRecDepth 100000 in
theorem KX0_add_p {l : Launch} {dC : Nat → ClassId} {dI : Nat → Nat → Nat} {cI cZ : ClassId} {a : Nat → Nat} {σ : St} {x1 : Int32} {x2 : Int32} {r : Int32} {σ2 : St} (hok : okA 30 a) (h : fX0_add_p σ x1 x2 = some (r, σ2)) (sz : Nat) : Met l yX0_add wsX0_add rmX0_add_p (Pz (dC, dI) cI cZ (wdC cI cZ a σ) sz [.ref (a 7), .int x1, .int x2]) (Qzi (dC, dI) 30 a (wdC cI cZ a σ2) sz r) 0 0 (aN 30 a sz) := by
  refine Met.ofW (cc := cX0_add) (maxL := 3) (ret := (some .boolean)) (by decide) rfl ?_
  intro p e s m args below meth c s₁ B hml hv
  obtain ⟨hav, hsz, hP, hKK⟩ := hv
  have hx := B.exec
  have hb := B.bytes
  have hr := B.returns
  have hts := atoms_spec (ws := wsX0_add) B.pre
  have hown : s.vm.findClass RX0 = some m.cls := findClass_of_methodNamed B.named
  have hlocks := B.notSynchronized
  have CF : CallFix p m c cX0_add 3 s args wsX0_add RX0 := ⟨hx, hb, hml, hown, hts⟩
  have hz : zz (dC, dI) 30 a (wdC cI cZ a σ) s.heap s.heap [] := ⟨hP, va_S.rf⟩
  have hl := lv_entry [.ref (a 7), .int x1, .int x2] (n := 3) (Nat.le_of_ble_eq_true rfl)
  have hen : entryFrame m args 3 = entryFrame m ([.ref (a 7), .int x1, .int x2] : List Value).toArray 3 := by rw [hav]
  rw [hen, lg_entry_eq]
  generalize (lg_sl [.ref (a 7), .int x1, .int x2] ++ List.replicate (3 - (lg_sl [.ref (a 7), .int x1, .int x2]).length) Slot.unset).toArray = ls at hl ⊢
  have hl : lv_has ls 3 [(0, .ref (a 7)), (1, .int x1), (2, .int x2)] := hl
  have eR : (headSpec wsX0_add rmX0_add_p).room = rmX0_add_p := rfl
  rw [eR]
  have rt : ∀ (v : Int32) (t : St) (pc : Nat) (H : Heap) (locs : List Loc) (ls : Array Slot), decode cX0_add pc = .ok (.ireturn, 1) → some (v, t) = some (r, σ2) → zz (dC, dI) 30 a (wdC cI cZ a t) s.heap H locs → (v = 0 ∨ v = 1) → W p l e rmX0_add_p s m args below meth c H locs 0 0 (MQ below (Qzi (dC, dI) 30 a (wdC cI cZ a σ2) sz r) args s 0 0 (aN 30 a sz)) (F0 m pc ls [.int v]) := by
    intro v t pc H locs ls hd h hz hv
    cases h
    exact zzret hsz hx hb hr hlocks hv hz hd
  generalize (MQ below (Qzi (dC, dI) 30 a (wdC cI cZ a σ2) sz r) args s 0 0 (aN 30 a sz)) = Q at rt ⊢
  have b68 : ∀  (σ : St) (H : Heap) (locs : List Loc) (ls : Array Slot), fX0_add_p_b68  σ = some (r, σ2) → zz (dC, dI) 30 a (wdC cI cZ a σ) s.heap H locs → lv_has ls 3 [(0, .ref (a 7))] → W p l e rmX0_add_p s m args below meth c H locs 0 0 Q (F0 m 68 ls []) := by
    intro  σ H locs ls h hz hl
    unfold fX0_add_p_b68 at h
    refine lv_aload_n hx hb dX0_add_68 rfl (lv_at hl 0 rfl) ?_
    refine lv_dup hx hb dX0_add_69 rfl ?_
    refine va_get (v := .int (σ 48 0)) hx hb hts inX0_add_X0 hown hKK.1 hz.1 7 rfl rfl 2 (by decide) (hts _ (List.mem_of_getElem? (i := 1) rfl)) (fun _ h9 => h9) rfl dX0_add_70 ?_
    refine lv_iconst (v := (1 : Int32)) hx hb dX0_add_73 (by decide) ?_
    refine lv_iadd hx hb dX0_add_74 ?_
    refine zput (ty := .int) (w' := wdC cI cZ a (si σ 48 ((σ 48 0) + (1 : Int32)))) hx hb hts inX0_add_X0 tyX0 tyX0_ok nmX0 hown hKK hok wkC hz 7 rfl rfl 2 (by decide) (hts _ (List.mem_of_getElem? (i := 1) rfl)) (fun _ h9 => h9) rfl rfl rfl rfl (Nat.le_of_ble_eq_true rfl) setCi_48 dX0_add_75 (fun H locs hz => ?_)
    refine lv_iconst (v := (1 : Int32)) hx hb dX0_add_78 (by decide) ?_
    exact rt (1 : Int32) (si σ 48 ((σ 48 0) + (1 : Int32))) 79 _ _ _ dX0_add_79 h hz (Or.inr rfl)
  unfold fX0_add_p at h
  refine lv_aload_n hx hb dX0_add_0 rfl (lv_at hl 0 rfl) ?_
  refine va_get (v := .int (σ 48 0)) hx hb hts inX0_add_X0 hown hKK.1 hz.1 7 rfl rfl 2 (by decide) (hts _ (List.mem_of_getElem? (i := 1) rfl)) (fun _ h9 => h9) rfl dX0_add_1 ?_
  refine lv_if_lt (tgt := 31) hx hb dX0_add_4 (by decide) (fun c1 => ?_) (fun c1 => ?_)
  · replace h := ite_t c1 h
    refine lv_iconst (v := (0 : Int32)) hx hb dX0_add_31 (by decide) ?_
    exact rt (0 : Int32) σ 32 _ _ _ dX0_add_32 h hz (Or.inl rfl)
  · replace h := ite_f c1 h
    refine lv_aload_n hx hb dX0_add_7 rfl (lv_at hl 0 rfl) ?_
    refine va_get (v := .int (σ 48 0)) hx hb hts inX0_add_X0 hown hKK.1 hz.1 7 rfl rfl 2 (by decide) (hts _ (List.mem_of_getElem? (i := 1) rfl)) (fun _ h9 => h9) rfl dX0_add_8 ?_
    refine lv_aload_n hx hb dX0_add_11 rfl (lv_at hl 0 rfl) ?_
    refine va_get (v := .ref (a 8)) hx hb hts inX0_add_X0 hown hKK.1 hz.1 7 rfl rfl 0 (by decide) (hts _ (List.mem_of_getElem? (i := 2) rfl)) (fun _ h9 => h9) rfl dX0_add_12 ?_
    refine va_alen (v := (24 : Int32)) hx hb hKK.1 hz.1 8 0 rfl rfl rfl dX0_add_15 ?_
    refine lv_icmp_ge (tgt := 31) hx hb dX0_add_16 (by decide) (fun c2 => ?_) (fun c2 => ?_)
    · replace h := ite_t c2 h
      refine lv_iconst (v := (0 : Int32)) hx hb dX0_add_31 (by decide) ?_
      exact rt (0 : Int32) σ 32 _ _ _ dX0_add_32 h hz (Or.inl rfl)
    · replace h := ite_f c2 h
      refine lv_aload_n hx hb dX0_add_19 rfl (lv_at hl 0 rfl) ?_
      refine va_get (v := .int (σ 48 0)) hx hb hts inX0_add_X0 hown hKK.1 hz.1 7 rfl rfl 2 (by decide) (hts _ (List.mem_of_getElem? (i := 1) rfl)) (fun _ h9 => h9) rfl dX0_add_20 ?_
      refine lv_aload_n hx hb dX0_add_23 rfl (lv_at hl 0 rfl) ?_
      refine va_get (v := .ref (a 9)) hx hb hts inX0_add_X0 hown hKK.1 hz.1 7 rfl rfl 1 (by decide) (hts _ (List.mem_of_getElem? (i := 3) rfl)) (fun _ h9 => h9) rfl dX0_add_24 ?_
      refine va_alen (v := (24 : Int32)) hx hb hKK.1 hz.1 9 0 rfl rfl rfl dX0_add_27 ?_
      refine lv_icmp_lt (tgt := 33) hx hb dX0_add_28 (by decide) (fun c3 => ?_) (fun c3 => ?_)
      · replace h := ite_t c3 h
        refine lv_aload_n hx hb dX0_add_33 rfl (lv_at hl 0 rfl) ?_
        refine va_get (v := .ref (a 8)) hx hb hts inX0_add_X0 hown hKK.1 hz.1 7 rfl rfl 0 (by decide) (hts _ (List.mem_of_getElem? (i := 2) rfl)) (fun _ h9 => h9) rfl dX0_add_34 ?_
        refine lv_aload_n hx hb dX0_add_37 rfl (lv_at hl 0 rfl) ?_
        refine va_get (v := .int (σ 48 0)) hx hb hts inX0_add_X0 hown hKK.1 hz.1 7 rfl rfl 2 (by decide) (hts _ (List.mem_of_getElem? (i := 1) rfl)) (fun _ h9 => h9) rfl dX0_add_38 ?_
        refine lv_iload_n hx hb dX0_add_41 rfl (lv_at hl 1 rfl) ?_
        obtain ⟨c4, h⟩ := ck_e h
        refine ziast (f := σ 8) (w' := wdC cI cZ a (sa σ 8 (Int32.toNatClampNeg (σ 48 0)) x1)) hx hb hKK hok wkC hz 8 rfl c4 setCa_8 dX0_add_42 (fun H locs hz => ?_)
        refine lv_aload_n hx hb dX0_add_43 rfl (lv_at hl 0 rfl) ?_
        refine va_get (v := .ref (a 9)) hx hb hts inX0_add_X0 hown hKK.1 hz.1 7 rfl rfl 1 (by decide) (hts _ (List.mem_of_getElem? (i := 3) rfl)) (fun _ h9 => h9) rfl dX0_add_44 ?_
        refine lv_aload_n hx hb dX0_add_47 rfl (lv_at hl 0 rfl) ?_
        refine va_get (v := .int (σ 48 0)) hx hb hts inX0_add_X0 hown hKK.1 hz.1 7 rfl rfl 2 (by decide) (hts _ (List.mem_of_getElem? (i := 1) rfl)) (fun _ h9 => h9) rfl dX0_add_48 ?_
        refine lv_iload_n hx hb dX0_add_51 rfl (lv_at hl 2 rfl) ?_
        obtain ⟨c5, h⟩ := ck_e h
        refine ziast (f := (sa σ 8 (Int32.toNatClampNeg (σ 48 0)) x1) 9) (w' := wdC cI cZ a (sa (sa σ 8 (Int32.toNatClampNeg (σ 48 0)) x1) 9 (Int32.toNatClampNeg (σ 48 0)) x2)) hx hb hKK hok wkC hz 9 rfl c5 setCa_9 dX0_add_52 (fun H locs hz => ?_)
        refine lv_iload_n hx hb dX0_add_53 rfl (lv_at hl 1 rfl) ?_
        refine lv_iconst (v := (5 : Int32)) hx hb dX0_add_54 (by decide) ?_
        refine lv_icmp_ne (tgt := 68) hx hb dX0_add_55 (by decide) (fun c6 => ?_) (fun c6 => ?_)
        · replace h := ite_f c6 h
          exact b68  (sa (sa σ 8 (Int32.toNatClampNeg (σ 48 0)) x1) 9 (Int32.toNatClampNeg (σ 48 0)) x2) _ _ _ h hz (lv_sub hl [0] rfl)
        · replace h := ite_t c6 h
          refine lv_aload_n hx hb dX0_add_58 rfl (lv_at hl 0 rfl) ?_
          refine lv_dup hx hb dX0_add_59 rfl ?_
          refine va_get (v := .int (σ 49 0)) hx hb hts inX0_add_X0 hown hKK.1 hz.1 7 rfl rfl 3 (by decide) (hts _ (List.mem_of_getElem? (i := 4) rfl)) (fun _ h9 => h9) rfl dX0_add_60 ?_
          refine lv_iconst (v := (1 : Int32)) hx hb dX0_add_63 (by decide) ?_
          refine lv_iadd hx hb dX0_add_64 ?_
          refine zput (ty := .int) (w' := wdC cI cZ a (si (sa (sa σ 8 (Int32.toNatClampNeg (σ 48 0)) x1) 9 (Int32.toNatClampNeg (σ 48 0)) x2) 49 ((σ 49 0) + (1 : Int32)))) hx hb hts inX0_add_X0 tyX0 tyX0_ok nmX0 hown hKK hok wkC hz 7 rfl rfl 3 (by decide) (hts _ (List.mem_of_getElem? (i := 4) rfl)) (fun _ h9 => h9) rfl rfl rfl rfl (Nat.le_of_ble_eq_true rfl) setCi_49 dX0_add_65 (fun H locs hz => ?_)
          exact b68  (si (sa (sa σ 8 (Int32.toNatClampNeg (σ 48 0)) x1) 9 (Int32.toNatClampNeg (σ 48 0)) x2) 49 ((σ 49 0) + (1 : Int32))) _ _ _ h hz (lv_sub hl [0] rfl)
      · replace h := ite_f c3 h
        refine lv_iconst (v := (0 : Int32)) hx hb dX0_add_31 (by decide) ?_
        exact rt (0 : Int32) σ 32 _ _ _ dX0_add_32 h hz (Or.inl rfl)
def fX0_size_r (σ : St)  : Option (Int32) :=
  some (σ 46 0)
abbrev rmX0_size_r : Room := { frames := 0, cells := 0, slots := 0, locals := 0 }
set_option maxHeartbeats 4000000 in
set_option maxRecDepth 100000 in
theorem KX0_size_r {l : Launch} {dC : Nat → ClassId} {dI : Nat → Nat → Nat} {cI cZ : ClassId} {a : Nat → Nat} {σ : St}  {r : Int32} (hok : okA 30 a) (h : fX0_size_r σ  = some r) (sz : Nat) : Met l yX0_size wsX0_size rmX0_size_r (Pz (dC, dI) cI cZ (wdC cI cZ a σ) sz [.ref (a 4)]) (Qzi (dC, dI) 30 a (wdC cI cZ a σ) sz r) 0 0 (aN 30 a sz) := by
  refine Met.ofW (cc := cX0_size) (maxL := 1) (ret := (some .int)) (by decide) rfl ?_
  intro p e s m args below meth c s₁ B hml hv
  obtain ⟨hav, hsz, hP, hKK⟩ := hv
  have hx := B.exec
  have hb := B.bytes
  have hr := B.returns
  have hts := atoms_spec (ws := wsX0_size) B.pre
  have hown : s.vm.findClass RX0 = some m.cls := findClass_of_methodNamed B.named
  have hlocks := B.notSynchronized
  have CF : CallFix p m c cX0_size 1 s args wsX0_size RX0 := ⟨hx, hb, hml, hown, hts⟩
  have hz : zz (dC, dI) 30 a (wdC cI cZ a σ) s.heap s.heap [] := ⟨hP, va_S.rf⟩
  have hl := lv_entry [.ref (a 4)] (n := 1) (Nat.le_of_ble_eq_true rfl)
  have hen : entryFrame m args 1 = entryFrame m ([.ref (a 4)] : List Value).toArray 1 := by rw [hav]
  rw [hen, lg_entry_eq]
  generalize (lg_sl [.ref (a 4)] ++ List.replicate (1 - (lg_sl [.ref (a 4)]).length) Slot.unset).toArray = ls at hl ⊢
  have hl : lv_has ls 1 [(0, .ref (a 4))] := hl
  have eR : (headSpec wsX0_size rmX0_size_r).room = rmX0_size_r := rfl
  rw [eR]
  have rt : ∀ (v : Int32) (t : St) (pc : Nat) (H : Heap) (locs : List Loc) (ls : Array Slot), decode cX0_size pc = .ok (.ireturn, 1) → some v = some r → zz (dC, dI) 30 a (wdC cI cZ a σ) s.heap H locs → W p l e rmX0_size_r s m args below meth c H locs 0 0 (MQ below (Qzi (dC, dI) 30 a (wdC cI cZ a σ) sz r) args s 0 0 (aN 30 a sz)) (F0 m pc ls [.int v]) := by
    intro v t pc H locs ls hd h hz
    cases h
    exact ziret hsz hx hb hr hlocks hz hd
  generalize (MQ below (Qzi (dC, dI) 30 a (wdC cI cZ a σ) sz r) args s 0 0 (aN 30 a sz)) = Q at rt ⊢
  unfold fX0_size_r at h
  refine lv_aload_n hx hb dX0_size_0 rfl (lv_at hl 0 rfl) ?_
  refine va_get (v := .int (σ 46 0)) hx hb hts inX0_size_X0 hown hKK.1 hz.1 4 rfl rfl 2 (by decide) (hts _ (List.mem_of_getElem? (i := 1) rfl)) (fun _ h9 => h9) rfl dX0_size_1 ?_
  exact rt (σ 46 0) σ 4 _ _ _ dX0_size_4 h hz
def fX0_size_p (σ : St)  : Option (Int32) :=
  some (σ 48 0)
abbrev rmX0_size_p : Room := { frames := 0, cells := 0, slots := 0, locals := 0 }
set_option maxHeartbeats 4000000 in
set_option maxRecDepth 100000 in
theorem KX0_size_p {l : Launch} {dC : Nat → ClassId} {dI : Nat → Nat → Nat} {cI cZ : ClassId} {a : Nat → Nat} {σ : St}  {r : Int32} (hok : okA 30 a) (h : fX0_size_p σ  = some r) (sz : Nat) : Met l yX0_size wsX0_size rmX0_size_p (Pz (dC, dI) cI cZ (wdC cI cZ a σ) sz [.ref (a 7)]) (Qzi (dC, dI) 30 a (wdC cI cZ a σ) sz r) 0 0 (aN 30 a sz) := by
  refine Met.ofW (cc := cX0_size) (maxL := 1) (ret := (some .int)) (by decide) rfl ?_
  intro p e s m args below meth c s₁ B hml hv
  obtain ⟨hav, hsz, hP, hKK⟩ := hv
  have hx := B.exec
  have hb := B.bytes
  have hr := B.returns
  have hts := atoms_spec (ws := wsX0_size) B.pre
  have hown : s.vm.findClass RX0 = some m.cls := findClass_of_methodNamed B.named
  have hlocks := B.notSynchronized
  have CF : CallFix p m c cX0_size 1 s args wsX0_size RX0 := ⟨hx, hb, hml, hown, hts⟩
  have hz : zz (dC, dI) 30 a (wdC cI cZ a σ) s.heap s.heap [] := ⟨hP, va_S.rf⟩
  have hl := lv_entry [.ref (a 7)] (n := 1) (Nat.le_of_ble_eq_true rfl)
  have hen : entryFrame m args 1 = entryFrame m ([.ref (a 7)] : List Value).toArray 1 := by rw [hav]
  rw [hen, lg_entry_eq]
  generalize (lg_sl [.ref (a 7)] ++ List.replicate (1 - (lg_sl [.ref (a 7)]).length) Slot.unset).toArray = ls at hl ⊢
  have hl : lv_has ls 1 [(0, .ref (a 7))] := hl
  have eR : (headSpec wsX0_size rmX0_size_p).room = rmX0_size_p := rfl
  rw [eR]
  have rt : ∀ (v : Int32) (t : St) (pc : Nat) (H : Heap) (locs : List Loc) (ls : Array Slot), decode cX0_size pc = .ok (.ireturn, 1) → some v = some r → zz (dC, dI) 30 a (wdC cI cZ a σ) s.heap H locs → W p l e rmX0_size_p s m args below meth c H locs 0 0 (MQ below (Qzi (dC, dI) 30 a (wdC cI cZ a σ) sz r) args s 0 0 (aN 30 a sz)) (F0 m pc ls [.int v]) := by
    intro v t pc H locs ls hd h hz
    cases h
    exact ziret hsz hx hb hr hlocks hz hd
  generalize (MQ below (Qzi (dC, dI) 30 a (wdC cI cZ a σ) sz r) args s 0 0 (aN 30 a sz)) = Q at rt ⊢
  unfold fX0_size_p at h
  refine lv_aload_n hx hb dX0_size_0 rfl (lv_at hl 0 rfl) ?_
  refine va_get (v := .int (σ 48 0)) hx hb hts inX0_size_X0 hown hKK.1 hz.1 7 rfl rfl 2 (by decide) (hts _ (List.mem_of_getElem? (i := 1) rfl)) (fun _ h9 => h9) rfl dX0_size_1 ?_
  exact rt (σ 48 0) σ 4 _ _ _ dX0_size_4 h hz
def fX0_has_r (σ : St) (x1 : Int32) : Option (Int32) :=
  (if x1 < 0 then (some (0 : Int32)) else ((if (σ 46 0) ≤ x1 then (some (0 : Int32)) else ((if (24 : Int32) ≤ x1 then (some (0 : Int32)) else ((if (24 : Int32) ≤ x1 then (some (0 : Int32)) else (some (1 : Int32)))))))))
abbrev rmX0_has_r : Room := { frames := 0, cells := 0, slots := 0, locals := 0 }
set_option maxHeartbeats 4000000 in
set_option maxRecDepth 100000 in
theorem KX0_has_r {l : Launch} {dC : Nat → ClassId} {dI : Nat → Nat → Nat} {cI cZ : ClassId} {a : Nat → Nat} {σ : St} {x1 : Int32} {r : Int32} (hok : okA 30 a) (h : fX0_has_r σ x1 = some r) (sz : Nat) : Met l yX0_has wsX0_has rmX0_has_r (Pz (dC, dI) cI cZ (wdC cI cZ a σ) sz [.ref (a 4), .int x1]) (Qzi (dC, dI) 30 a (wdC cI cZ a σ) sz r) 0 0 (aN 30 a sz) := by
  refine Met.ofW (cc := cX0_has) (maxL := 2) (ret := (some .boolean)) (by decide) rfl ?_
  intro p e s m args below meth c s₁ B hml hv
  obtain ⟨hav, hsz, hP, hKK⟩ := hv
  have hx := B.exec
  have hb := B.bytes
  have hr := B.returns
  have hts := atoms_spec (ws := wsX0_has) B.pre
  have hown : s.vm.findClass RX0 = some m.cls := findClass_of_methodNamed B.named
  have hlocks := B.notSynchronized
  have CF : CallFix p m c cX0_has 2 s args wsX0_has RX0 := ⟨hx, hb, hml, hown, hts⟩
  have hz : zz (dC, dI) 30 a (wdC cI cZ a σ) s.heap s.heap [] := ⟨hP, va_S.rf⟩
  have hl := lv_entry [.ref (a 4), .int x1] (n := 2) (Nat.le_of_ble_eq_true rfl)
  have hen : entryFrame m args 2 = entryFrame m ([.ref (a 4), .int x1] : List Value).toArray 2 := by rw [hav]
  rw [hen, lg_entry_eq]
  generalize (lg_sl [.ref (a 4), .int x1] ++ List.replicate (2 - (lg_sl [.ref (a 4), .int x1]).length) Slot.unset).toArray = ls at hl ⊢
  have hl : lv_has ls 2 [(0, .ref (a 4)), (1, .int x1)] := hl
  have eR : (headSpec wsX0_has rmX0_has_r).room = rmX0_has_r := rfl
  rw [eR]
  have rt : ∀ (v : Int32) (t : St) (pc : Nat) (H : Heap) (locs : List Loc) (ls : Array Slot), decode cX0_has pc = .ok (.ireturn, 1) → some v = some r → zz (dC, dI) 30 a (wdC cI cZ a σ) s.heap H locs → (v = 0 ∨ v = 1) → W p l e rmX0_has_r s m args below meth c H locs 0 0 (MQ below (Qzi (dC, dI) 30 a (wdC cI cZ a σ) sz r) args s 0 0 (aN 30 a sz)) (F0 m pc ls [.int v]) := by
    intro v t pc H locs ls hd h hz hv
    cases h
    exact zzret hsz hx hb hr hlocks hv hz hd
  generalize (MQ below (Qzi (dC, dI) 30 a (wdC cI cZ a σ) sz r) args s 0 0 (aN 30 a sz)) = Q at rt ⊢
  unfold fX0_has_r at h
  refine lv_iload_n hx hb dX0_has_0 rfl (lv_at hl 1 rfl) ?_
  refine lv_if_lt (tgt := 34) hx hb dX0_has_1 (by decide) (fun c1 => ?_) (fun c1 => ?_)
  · replace h := ite_t c1 h
    refine lv_iconst (v := (0 : Int32)) hx hb dX0_has_34 (by decide) ?_
    exact rt (0 : Int32) σ 35 _ _ _ dX0_has_35 h hz (Or.inl rfl)
  · replace h := ite_f c1 h
    refine lv_iload_n hx hb dX0_has_4 rfl (lv_at hl 1 rfl) ?_
    refine lv_aload_n hx hb dX0_has_5 rfl (lv_at hl 0 rfl) ?_
    refine va_get (v := .int (σ 46 0)) hx hb hts inX0_has_X0 hown hKK.1 hz.1 4 rfl rfl 2 (by decide) (hts _ (List.mem_of_getElem? (i := 1) rfl)) (fun _ h9 => h9) rfl dX0_has_6 ?_
    refine lv_icmp_ge (tgt := 34) hx hb dX0_has_9 (by decide) (fun c2 => ?_) (fun c2 => ?_)
    · replace h := ite_t c2 h
      refine lv_iconst (v := (0 : Int32)) hx hb dX0_has_34 (by decide) ?_
      exact rt (0 : Int32) σ 35 _ _ _ dX0_has_35 h hz (Or.inl rfl)
    · replace h := ite_f c2 h
      refine lv_iload_n hx hb dX0_has_12 rfl (lv_at hl 1 rfl) ?_
      refine lv_aload_n hx hb dX0_has_13 rfl (lv_at hl 0 rfl) ?_
      refine va_get (v := .ref (a 5)) hx hb hts inX0_has_X0 hown hKK.1 hz.1 4 rfl rfl 0 (by decide) (hts _ (List.mem_of_getElem? (i := 2) rfl)) (fun _ h9 => h9) rfl dX0_has_14 ?_
      refine va_alen (v := (24 : Int32)) hx hb hKK.1 hz.1 5 0 rfl rfl rfl dX0_has_17 ?_
      refine lv_icmp_ge (tgt := 34) hx hb dX0_has_18 (by decide) (fun c3 => ?_) (fun c3 => ?_)
      · replace h := ite_t c3 h
        refine lv_iconst (v := (0 : Int32)) hx hb dX0_has_34 (by decide) ?_
        exact rt (0 : Int32) σ 35 _ _ _ dX0_has_35 h hz (Or.inl rfl)
      · replace h := ite_f c3 h
        refine lv_iload_n hx hb dX0_has_21 rfl (lv_at hl 1 rfl) ?_
        refine lv_aload_n hx hb dX0_has_22 rfl (lv_at hl 0 rfl) ?_
        refine va_get (v := .ref (a 6)) hx hb hts inX0_has_X0 hown hKK.1 hz.1 4 rfl rfl 1 (by decide) (hts _ (List.mem_of_getElem? (i := 3) rfl)) (fun _ h9 => h9) rfl dX0_has_23 ?_
        refine va_alen (v := (24 : Int32)) hx hb hKK.1 hz.1 6 0 rfl rfl rfl dX0_has_26 ?_
        refine lv_icmp_ge (tgt := 34) hx hb dX0_has_27 (by decide) (fun c4 => ?_) (fun c4 => ?_)
        · replace h := ite_t c4 h
          refine lv_iconst (v := (0 : Int32)) hx hb dX0_has_34 (by decide) ?_
          exact rt (0 : Int32) σ 35 _ _ _ dX0_has_35 h hz (Or.inl rfl)
        · replace h := ite_f c4 h
          refine lv_iconst (v := (1 : Int32)) hx hb dX0_has_30 (by decide) ?_
          refine lv_goto (tgt := 35) hx hb dX0_has_31 (by decide) ?_
          exact rt (1 : Int32) σ 35 _ _ _ dX0_has_35 h hz (Or.inr rfl)
def fX0_has_p (σ : St) (x1 : Int32) : Option (Int32) :=
  (if x1 < 0 then (some (0 : Int32)) else ((if (σ 48 0) ≤ x1 then (some (0 : Int32)) else ((if (24 : Int32) ≤ x1 then (some (0 : Int32)) else ((if (24 : Int32) ≤ x1 then (some (0 : Int32)) else (some (1 : Int32)))))))))
abbrev rmX0_has_p : Room := { frames := 0, cells := 0, slots := 0, locals := 0 }
set_option maxHeartbeats 4000000 in
set_option maxRecDepth 100000 in
theorem KX0_has_p {l : Launch} {dC : Nat → ClassId} {dI : Nat → Nat → Nat} {cI cZ : ClassId} {a : Nat → Nat} {σ : St} {x1 : Int32} {r : Int32} (hok : okA 30 a) (h : fX0_has_p σ x1 = some r) (sz : Nat) : Met l yX0_has wsX0_has rmX0_has_p (Pz (dC, dI) cI cZ (wdC cI cZ a σ) sz [.ref (a 7), .int x1]) (Qzi (dC, dI) 30 a (wdC cI cZ a σ) sz r) 0 0 (aN 30 a sz) := by
  refine Met.ofW (cc := cX0_has) (maxL := 2) (ret := (some .boolean)) (by decide) rfl ?_
  intro p e s m args below meth c s₁ B hml hv
  obtain ⟨hav, hsz, hP, hKK⟩ := hv
  have hx := B.exec
  have hb := B.bytes
  have hr := B.returns
  have hts := atoms_spec (ws := wsX0_has) B.pre
  have hown : s.vm.findClass RX0 = some m.cls := findClass_of_methodNamed B.named
  have hlocks := B.notSynchronized
  have CF : CallFix p m c cX0_has 2 s args wsX0_has RX0 := ⟨hx, hb, hml, hown, hts⟩
  have hz : zz (dC, dI) 30 a (wdC cI cZ a σ) s.heap s.heap [] := ⟨hP, va_S.rf⟩
  have hl := lv_entry [.ref (a 7), .int x1] (n := 2) (Nat.le_of_ble_eq_true rfl)
  have hen : entryFrame m args 2 = entryFrame m ([.ref (a 7), .int x1] : List Value).toArray 2 := by rw [hav]
  rw [hen, lg_entry_eq]
  generalize (lg_sl [.ref (a 7), .int x1] ++ List.replicate (2 - (lg_sl [.ref (a 7), .int x1]).length) Slot.unset).toArray = ls at hl ⊢
  have hl : lv_has ls 2 [(0, .ref (a 7)), (1, .int x1)] := hl
  have eR : (headSpec wsX0_has rmX0_has_p).room = rmX0_has_p := rfl
  rw [eR]
  have rt : ∀ (v : Int32) (t : St) (pc : Nat) (H : Heap) (locs : List Loc) (ls : Array Slot), decode cX0_has pc = .ok (.ireturn, 1) → some v = some r → zz (dC, dI) 30 a (wdC cI cZ a σ) s.heap H locs → (v = 0 ∨ v = 1) → W p l e rmX0_has_p s m args below meth c H locs 0 0 (MQ below (Qzi (dC, dI) 30 a (wdC cI cZ a σ) sz r) args s 0 0 (aN 30 a sz)) (F0 m pc ls [.int v]) := by
    intro v t pc H locs ls hd h hz hv
    cases h
    exact zzret hsz hx hb hr hlocks hv hz hd
  generalize (MQ below (Qzi (dC, dI) 30 a (wdC cI cZ a σ) sz r) args s 0 0 (aN 30 a sz)) = Q at rt ⊢
  unfold fX0_has_p at h
  refine lv_iload_n hx hb dX0_has_0 rfl (lv_at hl 1 rfl) ?_
  refine lv_if_lt (tgt := 34) hx hb dX0_has_1 (by decide) (fun c1 => ?_) (fun c1 => ?_)
  · replace h := ite_t c1 h
    refine lv_iconst (v := (0 : Int32)) hx hb dX0_has_34 (by decide) ?_
    exact rt (0 : Int32) σ 35 _ _ _ dX0_has_35 h hz (Or.inl rfl)
  · replace h := ite_f c1 h
    refine lv_iload_n hx hb dX0_has_4 rfl (lv_at hl 1 rfl) ?_
    refine lv_aload_n hx hb dX0_has_5 rfl (lv_at hl 0 rfl) ?_
    refine va_get (v := .int (σ 48 0)) hx hb hts inX0_has_X0 hown hKK.1 hz.1 7 rfl rfl 2 (by decide) (hts _ (List.mem_of_getElem? (i := 1) rfl)) (fun _ h9 => h9) rfl dX0_has_6 ?_
    refine lv_icmp_ge (tgt := 34) hx hb dX0_has_9 (by decide) (fun c2 => ?_) (fun c2 => ?_)
    · replace h := ite_t c2 h
      refine lv_iconst (v := (0 : Int32)) hx hb dX0_has_34 (by decide) ?_
      exact rt (0 : Int32) σ 35 _ _ _ dX0_has_35 h hz (Or.inl rfl)
    · replace h := ite_f c2 h
      refine lv_iload_n hx hb dX0_has_12 rfl (lv_at hl 1 rfl) ?_
      refine lv_aload_n hx hb dX0_has_13 rfl (lv_at hl 0 rfl) ?_
      refine va_get (v := .ref (a 8)) hx hb hts inX0_has_X0 hown hKK.1 hz.1 7 rfl rfl 0 (by decide) (hts _ (List.mem_of_getElem? (i := 2) rfl)) (fun _ h9 => h9) rfl dX0_has_14 ?_
      refine va_alen (v := (24 : Int32)) hx hb hKK.1 hz.1 8 0 rfl rfl rfl dX0_has_17 ?_
      refine lv_icmp_ge (tgt := 34) hx hb dX0_has_18 (by decide) (fun c3 => ?_) (fun c3 => ?_)
      · replace h := ite_t c3 h
        refine lv_iconst (v := (0 : Int32)) hx hb dX0_has_34 (by decide) ?_
        exact rt (0 : Int32) σ 35 _ _ _ dX0_has_35 h hz (Or.inl rfl)
      · replace h := ite_f c3 h
        refine lv_iload_n hx hb dX0_has_21 rfl (lv_at hl 1 rfl) ?_
        refine lv_aload_n hx hb dX0_has_22 rfl (lv_at hl 0 rfl) ?_
        refine va_get (v := .ref (a 9)) hx hb hts inX0_has_X0 hown hKK.1 hz.1 7 rfl rfl 1 (by decide) (hts _ (List.mem_of_getElem? (i := 3) rfl)) (fun _ h9 => h9) rfl dX0_has_23 ?_
        refine va_alen (v := (24 : Int32)) hx hb hKK.1 hz.1 9 0 rfl rfl rfl dX0_has_26 ?_
        refine lv_icmp_ge (tgt := 34) hx hb dX0_has_27 (by decide) (fun c4 => ?_) (fun c4 => ?_)
        · replace h := ite_t c4 h
          refine lv_iconst (v := (0 : Int32)) hx hb dX0_has_34 (by decide) ?_
          exact rt (0 : Int32) σ 35 _ _ _ dX0_has_35 h hz (Or.inl rfl)
        · replace h := ite_f c4 h
          refine lv_iconst (v := (1 : Int32)) hx hb dX0_has_30 (by decide) ?_
          refine lv_goto (tgt := 35) hx hb dX0_has_31 (by decide) ?_
          exact rt (1 : Int32) σ 35 _ _ _ dX0_has_35 h hz (Or.inr rfl)
def fX0_kindOf_r (σ : St) (x1 : Int32) : Option (Int32) :=
  (bd1 (fX0_has_r σ x1) fun r1 => (if r1 = 0 then (some (-1 : Int32)) else ((ck (¬ (x1 < 0 ∨ 24 ≤ Int32.toNatClampNeg x1)) <| some ((σ 5) (Int32.toNatClampNeg x1))))))
abbrev rmX0_kindOf_r : Room := { frames := 1, cells := 0, slots := 0, locals := 21 }
set_option maxHeartbeats 4000000 in
set_option maxRecDepth 100000 in
theorem KX0_kindOf_r {l : Launch} {dC : Nat → ClassId} {dI : Nat → Nat → Nat} {cI cZ : ClassId} {a : Nat → Nat} {σ : St} {x1 : Int32} {r : Int32} (hok : okA 30 a) (h : fX0_kindOf_r σ x1 = some r) (sz : Nat) : Met l yX0_kindOf wsX0_kindOf rmX0_kindOf_r (Pz (dC, dI) cI cZ (wdC cI cZ a σ) sz [.ref (a 4), .int x1]) (Qzi (dC, dI) 30 a (wdC cI cZ a σ) sz r) 0 0 (aN 30 a sz) := by
  refine Met.ofW (cc := cX0_kindOf) (maxL := 2) (ret := (some .int)) (by decide) rfl ?_
  intro p e s m args below meth c s₁ B hml hv
  obtain ⟨hav, hsz, hP, hKK⟩ := hv
  have hx := B.exec
  have hb := B.bytes
  have hr := B.returns
  have hts := atoms_spec (ws := wsX0_kindOf) B.pre
  have hown : s.vm.findClass RX0 = some m.cls := findClass_of_methodNamed B.named
  have hlocks := B.notSynchronized
  have CF : CallFix p m c cX0_kindOf 2 s args wsX0_kindOf RX0 := ⟨hx, hb, hml, hown, hts⟩
  have hz : zz (dC, dI) 30 a (wdC cI cZ a σ) s.heap s.heap [] := ⟨hP, va_S.rf⟩
  have hl := lv_entry [.ref (a 4), .int x1] (n := 2) (Nat.le_of_ble_eq_true rfl)
  have hen : entryFrame m args 2 = entryFrame m ([.ref (a 4), .int x1] : List Value).toArray 2 := by rw [hav]
  rw [hen, lg_entry_eq]
  generalize (lg_sl [.ref (a 4), .int x1] ++ List.replicate (2 - (lg_sl [.ref (a 4), .int x1]).length) Slot.unset).toArray = ls at hl ⊢
  have hl : lv_has ls 2 [(0, .ref (a 4)), (1, .int x1)] := hl
  have eR : (headSpec wsX0_kindOf rmX0_kindOf_r).room = rmX0_kindOf_r := rfl
  rw [eR]
  have rt : ∀ (v : Int32) (t : St) (pc : Nat) (H : Heap) (locs : List Loc) (ls : Array Slot), decode cX0_kindOf pc = .ok (.ireturn, 1) → some v = some r → zz (dC, dI) 30 a (wdC cI cZ a σ) s.heap H locs → W p l e rmX0_kindOf_r s m args below meth c H locs 0 0 (MQ below (Qzi (dC, dI) 30 a (wdC cI cZ a σ) sz r) args s 0 0 (aN 30 a sz)) (F0 m pc ls [.int v]) := by
    intro v t pc H locs ls hd h hz
    cases h
    exact ziret hsz hx hb hr hlocks hz hd
  generalize (MQ below (Qzi (dC, dI) 30 a (wdC cI cZ a σ) sz r) args s 0 0 (aN 30 a sz)) = Q at rt ⊢
  unfold fX0_kindOf_r at h
  refine lv_aload_n hx hb dX0_kindOf_0 rfl (lv_at hl 0 rfl) ?_
  refine lv_iload_n hx hb dX0_kindOf_1 rfl (lv_at hl 1 rfl) ?_
  obtain ⟨r1, e3, h⟩ := bd1_e h
  refine zcallVi (As := [.int x1]) (rest := []) CF hKK (KX0_has_r (dC := dC) (dI := dI) (cI := cI) (cZ := cZ) (a := a) hok e3) (cwV 1 hts gX0_kindOf_X0_has rfl rfl rfl cdX0_has ⟨Nat.le_of_ble_eq_true rfl, Nat.le_of_ble_eq_true rfl⟩) 4 0 rfl rfl hz rfl hl.1 rfl (Nat.le_of_ble_eq_true rfl) dX0_kindOf_2 ⟨Nat.le_refl _, Nat.le_refl _⟩ (fun H locs hz => ?_)
  refine lv_if_eq (tgt := 17) hx hb dX0_kindOf_5 (by decide) (fun c4 => ?_) (fun c4 => ?_)
  · replace h := ite_t c4 h
    refine lv_iconst (v := (-1 : Int32)) hx hb dX0_kindOf_17 (by decide) ?_
    exact rt (-1 : Int32) σ 18 _ _ _ dX0_kindOf_18 h hz
  · replace h := ite_f c4 h
    refine lv_aload_n hx hb dX0_kindOf_8 rfl (lv_at hl 0 rfl) ?_
    refine va_get (v := .ref (a 5)) hx hb hts inX0_kindOf_X0 hown hKK.1 hz.1 4 rfl rfl 0 (by decide) (hts _ (List.mem_of_getElem? (i := 1) rfl)) (fun _ h9 => h9) rfl dX0_kindOf_9 ?_
    refine lv_iload_n hx hb dX0_kindOf_12 rfl (lv_at hl 1 rfl) ?_
    obtain ⟨c5, h⟩ := ck_e h
    refine va_iald (f := (σ 5)) hx hb hKK.1 hz.1 5 0 rfl rfl c5 dX0_kindOf_13 ?_
    refine lv_goto (tgt := 18) hx hb dX0_kindOf_14 (by decide) ?_
    exact rt ((σ 5) (Int32.toNatClampNeg x1)) σ 18 _ _ _ dX0_kindOf_18 h hz
def fX0_kindOf_p (σ : St) (x1 : Int32) : Option (Int32) :=
  (bd1 (fX0_has_p σ x1) fun r1 => (if r1 = 0 then (some (-1 : Int32)) else ((ck (¬ (x1 < 0 ∨ 24 ≤ Int32.toNatClampNeg x1)) <| some ((σ 8) (Int32.toNatClampNeg x1))))))
abbrev rmX0_kindOf_p : Room := { frames := 1, cells := 0, slots := 0, locals := 21 }
set_option maxHeartbeats 4000000 in
set_option maxRecDepth 100000 in
theorem KX0_kindOf_p {l : Launch} {dC : Nat → ClassId} {dI : Nat → Nat → Nat} {cI cZ : ClassId} {a : Nat → Nat} {σ : St} {x1 : Int32} {r : Int32} (hok : okA 30 a) (h : fX0_kindOf_p σ x1 = some r) (sz : Nat) : Met l yX0_kindOf wsX0_kindOf rmX0_kindOf_p (Pz (dC, dI) cI cZ (wdC cI cZ a σ) sz [.ref (a 7), .int x1]) (Qzi (dC, dI) 30 a (wdC cI cZ a σ) sz r) 0 0 (aN 30 a sz) := by
  refine Met.ofW (cc := cX0_kindOf) (maxL := 2) (ret := (some .int)) (by decide) rfl ?_
  intro p e s m args below meth c s₁ B hml hv
  obtain ⟨hav, hsz, hP, hKK⟩ := hv
  have hx := B.exec
  have hb := B.bytes
  have hr := B.returns
  have hts := atoms_spec (ws := wsX0_kindOf) B.pre
  have hown : s.vm.findClass RX0 = some m.cls := findClass_of_methodNamed B.named
  have hlocks := B.notSynchronized
  have CF : CallFix p m c cX0_kindOf 2 s args wsX0_kindOf RX0 := ⟨hx, hb, hml, hown, hts⟩
  have hz : zz (dC, dI) 30 a (wdC cI cZ a σ) s.heap s.heap [] := ⟨hP, va_S.rf⟩
  have hl := lv_entry [.ref (a 7), .int x1] (n := 2) (Nat.le_of_ble_eq_true rfl)
  have hen : entryFrame m args 2 = entryFrame m ([.ref (a 7), .int x1] : List Value).toArray 2 := by rw [hav]
  rw [hen, lg_entry_eq]
  generalize (lg_sl [.ref (a 7), .int x1] ++ List.replicate (2 - (lg_sl [.ref (a 7), .int x1]).length) Slot.unset).toArray = ls at hl ⊢
  have hl : lv_has ls 2 [(0, .ref (a 7)), (1, .int x1)] := hl
  have eR : (headSpec wsX0_kindOf rmX0_kindOf_p).room = rmX0_kindOf_p := rfl
  rw [eR]
  have rt : ∀ (v : Int32) (t : St) (pc : Nat) (H : Heap) (locs : List Loc) (ls : Array Slot), decode cX0_kindOf pc = .ok (.ireturn, 1) → some v = some r → zz (dC, dI) 30 a (wdC cI cZ a σ) s.heap H locs → W p l e rmX0_kindOf_p s m args below meth c H locs 0 0 (MQ below (Qzi (dC, dI) 30 a (wdC cI cZ a σ) sz r) args s 0 0 (aN 30 a sz)) (F0 m pc ls [.int v]) := by
    intro v t pc H locs ls hd h hz
    cases h
    exact ziret hsz hx hb hr hlocks hz hd
  generalize (MQ below (Qzi (dC, dI) 30 a (wdC cI cZ a σ) sz r) args s 0 0 (aN 30 a sz)) = Q at rt ⊢
  unfold fX0_kindOf_p at h
  refine lv_aload_n hx hb dX0_kindOf_0 rfl (lv_at hl 0 rfl) ?_
  refine lv_iload_n hx hb dX0_kindOf_1 rfl (lv_at hl 1 rfl) ?_
  obtain ⟨r1, e3, h⟩ := bd1_e h
  refine zcallVi (As := [.int x1]) (rest := []) CF hKK (KX0_has_p (dC := dC) (dI := dI) (cI := cI) (cZ := cZ) (a := a) hok e3) (cwV 1 hts gX0_kindOf_X0_has rfl rfl rfl cdX0_has ⟨Nat.le_of_ble_eq_true rfl, Nat.le_of_ble_eq_true rfl⟩) 7 0 rfl rfl hz rfl hl.1 rfl (Nat.le_of_ble_eq_true rfl) dX0_kindOf_2 ⟨Nat.le_refl _, Nat.le_refl _⟩ (fun H locs hz => ?_)
  refine lv_if_eq (tgt := 17) hx hb dX0_kindOf_5 (by decide) (fun c4 => ?_) (fun c4 => ?_)
  · replace h := ite_t c4 h
    refine lv_iconst (v := (-1 : Int32)) hx hb dX0_kindOf_17 (by decide) ?_
    exact rt (-1 : Int32) σ 18 _ _ _ dX0_kindOf_18 h hz
  · replace h := ite_f c4 h
    refine lv_aload_n hx hb dX0_kindOf_8 rfl (lv_at hl 0 rfl) ?_
    refine va_get (v := .ref (a 8)) hx hb hts inX0_kindOf_X0 hown hKK.1 hz.1 7 rfl rfl 0 (by decide) (hts _ (List.mem_of_getElem? (i := 1) rfl)) (fun _ h9 => h9) rfl dX0_kindOf_9 ?_
    refine lv_iload_n hx hb dX0_kindOf_12 rfl (lv_at hl 1 rfl) ?_
    obtain ⟨c5, h⟩ := ck_e h
    refine va_iald (f := (σ 8)) hx hb hKK.1 hz.1 8 0 rfl rfl c5 dX0_kindOf_13 ?_
    refine lv_goto (tgt := 18) hx hb dX0_kindOf_14 (by decide) ?_
    exact rt ((σ 8) (Int32.toNatClampNeg x1)) σ 18 _ _ _ dX0_kindOf_18 h hz
def fX0_toldOf_r (σ : St) (x1 : Int32) : Option (Int32) :=
  (bd1 (fX0_has_r σ x1) fun r1 => (if r1 = 0 then (some (-1 : Int32)) else ((ck (¬ (x1 < 0 ∨ 24 ≤ Int32.toNatClampNeg x1)) <| some ((σ 6) (Int32.toNatClampNeg x1))))))
abbrev rmX0_toldOf_r : Room := { frames := 1, cells := 0, slots := 0, locals := 21 }
set_option maxHeartbeats 4000000 in
set_option maxRecDepth 100000 in
theorem KX0_toldOf_r {l : Launch} {dC : Nat → ClassId} {dI : Nat → Nat → Nat} {cI cZ : ClassId} {a : Nat → Nat} {σ : St} {x1 : Int32} {r : Int32} (hok : okA 30 a) (h : fX0_toldOf_r σ x1 = some r) (sz : Nat) : Met l yX0_toldOf wsX0_toldOf rmX0_toldOf_r (Pz (dC, dI) cI cZ (wdC cI cZ a σ) sz [.ref (a 4), .int x1]) (Qzi (dC, dI) 30 a (wdC cI cZ a σ) sz r) 0 0 (aN 30 a sz) := by
  refine Met.ofW (cc := cX0_toldOf) (maxL := 2) (ret := (some .int)) (by decide) rfl ?_
  intro p e s m args below meth c s₁ B hml hv
  obtain ⟨hav, hsz, hP, hKK⟩ := hv
  have hx := B.exec
  have hb := B.bytes
  have hr := B.returns
  have hts := atoms_spec (ws := wsX0_toldOf) B.pre
  have hown : s.vm.findClass RX0 = some m.cls := findClass_of_methodNamed B.named
  have hlocks := B.notSynchronized
  have CF : CallFix p m c cX0_toldOf 2 s args wsX0_toldOf RX0 := ⟨hx, hb, hml, hown, hts⟩
  have hz : zz (dC, dI) 30 a (wdC cI cZ a σ) s.heap s.heap [] := ⟨hP, va_S.rf⟩
  have hl := lv_entry [.ref (a 4), .int x1] (n := 2) (Nat.le_of_ble_eq_true rfl)
  have hen : entryFrame m args 2 = entryFrame m ([.ref (a 4), .int x1] : List Value).toArray 2 := by rw [hav]
  rw [hen, lg_entry_eq]
  generalize (lg_sl [.ref (a 4), .int x1] ++ List.replicate (2 - (lg_sl [.ref (a 4), .int x1]).length) Slot.unset).toArray = ls at hl ⊢
  have hl : lv_has ls 2 [(0, .ref (a 4)), (1, .int x1)] := hl
  have eR : (headSpec wsX0_toldOf rmX0_toldOf_r).room = rmX0_toldOf_r := rfl
  rw [eR]
  have rt : ∀ (v : Int32) (t : St) (pc : Nat) (H : Heap) (locs : List Loc) (ls : Array Slot), decode cX0_toldOf pc = .ok (.ireturn, 1) → some v = some r → zz (dC, dI) 30 a (wdC cI cZ a σ) s.heap H locs → W p l e rmX0_toldOf_r s m args below meth c H locs 0 0 (MQ below (Qzi (dC, dI) 30 a (wdC cI cZ a σ) sz r) args s 0 0 (aN 30 a sz)) (F0 m pc ls [.int v]) := by
    intro v t pc H locs ls hd h hz
    cases h
    exact ziret hsz hx hb hr hlocks hz hd
  generalize (MQ below (Qzi (dC, dI) 30 a (wdC cI cZ a σ) sz r) args s 0 0 (aN 30 a sz)) = Q at rt ⊢
  unfold fX0_toldOf_r at h
  refine lv_aload_n hx hb dX0_toldOf_0 rfl (lv_at hl 0 rfl) ?_
  refine lv_iload_n hx hb dX0_toldOf_1 rfl (lv_at hl 1 rfl) ?_
  obtain ⟨r1, e3, h⟩ := bd1_e h
  refine zcallVi (As := [.int x1]) (rest := []) CF hKK (KX0_has_r (dC := dC) (dI := dI) (cI := cI) (cZ := cZ) (a := a) hok e3) (cwV 1 hts gX0_toldOf_X0_has rfl rfl rfl cdX0_has ⟨Nat.le_of_ble_eq_true rfl, Nat.le_of_ble_eq_true rfl⟩) 4 0 rfl rfl hz rfl hl.1 rfl (Nat.le_of_ble_eq_true rfl) dX0_toldOf_2 ⟨Nat.le_refl _, Nat.le_refl _⟩ (fun H locs hz => ?_)
  refine lv_if_eq (tgt := 17) hx hb dX0_toldOf_5 (by decide) (fun c4 => ?_) (fun c4 => ?_)
  · replace h := ite_t c4 h
    refine lv_iconst (v := (-1 : Int32)) hx hb dX0_toldOf_17 (by decide) ?_
    exact rt (-1 : Int32) σ 18 _ _ _ dX0_toldOf_18 h hz
  · replace h := ite_f c4 h
    refine lv_aload_n hx hb dX0_toldOf_8 rfl (lv_at hl 0 rfl) ?_
    refine va_get (v := .ref (a 6)) hx hb hts inX0_toldOf_X0 hown hKK.1 hz.1 4 rfl rfl 1 (by decide) (hts _ (List.mem_of_getElem? (i := 1) rfl)) (fun _ h9 => h9) rfl dX0_toldOf_9 ?_
    refine lv_iload_n hx hb dX0_toldOf_12 rfl (lv_at hl 1 rfl) ?_
    obtain ⟨c5, h⟩ := ck_e h
    refine va_iald (f := (σ 6)) hx hb hKK.1 hz.1 6 0 rfl rfl c5 dX0_toldOf_13 ?_
    refine lv_goto (tgt := 18) hx hb dX0_toldOf_14 (by decide) ?_
    exact rt ((σ 6) (Int32.toNatClampNeg x1)) σ 18 _ _ _ dX0_toldOf_18 h hz
def fX0_toldOf_p (σ : St) (x1 : Int32) : Option (Int32) :=
  (bd1 (fX0_has_p σ x1) fun r1 => (if r1 = 0 then (some (-1 : Int32)) else ((ck (¬ (x1 < 0 ∨ 24 ≤ Int32.toNatClampNeg x1)) <| some ((σ 9) (Int32.toNatClampNeg x1))))))
abbrev rmX0_toldOf_p : Room := { frames := 1, cells := 0, slots := 0, locals := 21 }
set_option maxHeartbeats 4000000 in
set_option maxRecDepth 100000 in
theorem KX0_toldOf_p {l : Launch} {dC : Nat → ClassId} {dI : Nat → Nat → Nat} {cI cZ : ClassId} {a : Nat → Nat} {σ : St} {x1 : Int32} {r : Int32} (hok : okA 30 a) (h : fX0_toldOf_p σ x1 = some r) (sz : Nat) : Met l yX0_toldOf wsX0_toldOf rmX0_toldOf_p (Pz (dC, dI) cI cZ (wdC cI cZ a σ) sz [.ref (a 7), .int x1]) (Qzi (dC, dI) 30 a (wdC cI cZ a σ) sz r) 0 0 (aN 30 a sz) := by
  refine Met.ofW (cc := cX0_toldOf) (maxL := 2) (ret := (some .int)) (by decide) rfl ?_
  intro p e s m args below meth c s₁ B hml hv
  obtain ⟨hav, hsz, hP, hKK⟩ := hv
  have hx := B.exec
  have hb := B.bytes
  have hr := B.returns
  have hts := atoms_spec (ws := wsX0_toldOf) B.pre
  have hown : s.vm.findClass RX0 = some m.cls := findClass_of_methodNamed B.named
  have hlocks := B.notSynchronized
  have CF : CallFix p m c cX0_toldOf 2 s args wsX0_toldOf RX0 := ⟨hx, hb, hml, hown, hts⟩
  have hz : zz (dC, dI) 30 a (wdC cI cZ a σ) s.heap s.heap [] := ⟨hP, va_S.rf⟩
  have hl := lv_entry [.ref (a 7), .int x1] (n := 2) (Nat.le_of_ble_eq_true rfl)
  have hen : entryFrame m args 2 = entryFrame m ([.ref (a 7), .int x1] : List Value).toArray 2 := by rw [hav]
  rw [hen, lg_entry_eq]
  generalize (lg_sl [.ref (a 7), .int x1] ++ List.replicate (2 - (lg_sl [.ref (a 7), .int x1]).length) Slot.unset).toArray = ls at hl ⊢
  have hl : lv_has ls 2 [(0, .ref (a 7)), (1, .int x1)] := hl
  have eR : (headSpec wsX0_toldOf rmX0_toldOf_p).room = rmX0_toldOf_p := rfl
  rw [eR]
  have rt : ∀ (v : Int32) (t : St) (pc : Nat) (H : Heap) (locs : List Loc) (ls : Array Slot), decode cX0_toldOf pc = .ok (.ireturn, 1) → some v = some r → zz (dC, dI) 30 a (wdC cI cZ a σ) s.heap H locs → W p l e rmX0_toldOf_p s m args below meth c H locs 0 0 (MQ below (Qzi (dC, dI) 30 a (wdC cI cZ a σ) sz r) args s 0 0 (aN 30 a sz)) (F0 m pc ls [.int v]) := by
    intro v t pc H locs ls hd h hz
    cases h
    exact ziret hsz hx hb hr hlocks hz hd
  generalize (MQ below (Qzi (dC, dI) 30 a (wdC cI cZ a σ) sz r) args s 0 0 (aN 30 a sz)) = Q at rt ⊢
  unfold fX0_toldOf_p at h
  refine lv_aload_n hx hb dX0_toldOf_0 rfl (lv_at hl 0 rfl) ?_
  refine lv_iload_n hx hb dX0_toldOf_1 rfl (lv_at hl 1 rfl) ?_
  obtain ⟨r1, e3, h⟩ := bd1_e h
  refine zcallVi (As := [.int x1]) (rest := []) CF hKK (KX0_has_p (dC := dC) (dI := dI) (cI := cI) (cZ := cZ) (a := a) hok e3) (cwV 1 hts gX0_toldOf_X0_has rfl rfl rfl cdX0_has ⟨Nat.le_of_ble_eq_true rfl, Nat.le_of_ble_eq_true rfl⟩) 7 0 rfl rfl hz rfl hl.1 rfl (Nat.le_of_ble_eq_true rfl) dX0_toldOf_2 ⟨Nat.le_refl _, Nat.le_refl _⟩ (fun H locs hz => ?_)
  refine lv_if_eq (tgt := 17) hx hb dX0_toldOf_5 (by decide) (fun c4 => ?_) (fun c4 => ?_)
  · replace h := ite_t c4 h
    refine lv_iconst (v := (-1 : Int32)) hx hb dX0_toldOf_17 (by decide) ?_
    exact rt (-1 : Int32) σ 18 _ _ _ dX0_toldOf_18 h hz
  · replace h := ite_f c4 h
    refine lv_aload_n hx hb dX0_toldOf_8 rfl (lv_at hl 0 rfl) ?_
    refine va_get (v := .ref (a 9)) hx hb hts inX0_toldOf_X0 hown hKK.1 hz.1 7 rfl rfl 1 (by decide) (hts _ (List.mem_of_getElem? (i := 1) rfl)) (fun _ h9 => h9) rfl dX0_toldOf_9 ?_
    refine lv_iload_n hx hb dX0_toldOf_12 rfl (lv_at hl 1 rfl) ?_
    obtain ⟨c5, h⟩ := ck_e h
    refine va_iald (f := (σ 9)) hx hb hKK.1 hz.1 9 0 rfl rfl c5 dX0_toldOf_13 ?_
    refine lv_goto (tgt := 18) hx hb dX0_toldOf_14 (by decide) ?_
    exact rt ((σ 9) (Int32.toNatClampNeg x1)) σ 18 _ _ _ dX0_toldOf_18 h hz
def fX0_takeFrom_p_s6 (k6 : St → Int32 → Option (St)) (σ : St) (y2 : Int32) : Option (St) :=
  (bd1 (fX0_size_r σ ) fun r4 => (if r4 ≤ y2 then (some σ) else ((if (24 : Int32) ≤ y2 then (some σ) else ((bd1 (fX0_kindOf_r σ y2) fun r9 => (bd1 (fX0_toldOf_r σ y2) fun r12 => (bd2 (fX0_add_p σ r9 r12) fun r15 s16 => k6 s16 (y2 + (1 : Int32))))))))))
def fX0_takeFrom_p_l6  : Nat → St → Int32 → Option (St) :=
  itr (fX0_takeFrom_p_s6 ) (fun _ _ => none)
def fX0_takeFrom_p (σ : St)  : Option (St) :=
  (bd1 (fX0_clear_p σ ) fun s2 => fX0_takeFrom_p_l6  FU s2 (0 : Int32))
abbrev rmX0_takeFrom_p : Room := { frames := 2, cells := 0, slots := 0, locals := 42 }
set_option maxHeartbeats 4000000 in
set_option maxRecDepth 100000 in
theorem KX0_takeFrom_p {l : Launch} {dC : Nat → ClassId} {dI : Nat → Nat → Nat} {cI cZ : ClassId} {a : Nat → Nat} {σ : St}  {σ2 : St} (hok : okA 30 a) (h : fX0_takeFrom_p σ  = some σ2) (sz : Nat) : Met l yX0_takeFrom wsX0_takeFrom rmX0_takeFrom_p (Pz (dC, dI) cI cZ (wdC cI cZ a σ) sz [.ref (a 7), .ref (a 4)]) (Qzv (dC, dI) 30 a (wdC cI cZ a σ2) sz) 0 0 (aN 30 a sz) := by
  refine Met.ofW (cc := cX0_takeFrom) (maxL := 3) (ret := none) (by decide) rfl ?_
  intro p e s m args below meth c s₁ B hml hv
  obtain ⟨hav, hsz, hP, hKK⟩ := hv
  have hx := B.exec
  have hb := B.bytes
  have hr := B.returns
  have hts := atoms_spec (ws := wsX0_takeFrom) B.pre
  have hown : s.vm.findClass RX0 = some m.cls := findClass_of_methodNamed B.named
  have hlocks := B.notSynchronized
  have CF : CallFix p m c cX0_takeFrom 3 s args wsX0_takeFrom RX0 := ⟨hx, hb, hml, hown, hts⟩
  have hz : zz (dC, dI) 30 a (wdC cI cZ a σ) s.heap s.heap [] := ⟨hP, va_S.rf⟩
  have hl := lv_entry [.ref (a 7), .ref (a 4)] (n := 3) (Nat.le_of_ble_eq_true rfl)
  have hen : entryFrame m args 3 = entryFrame m ([.ref (a 7), .ref (a 4)] : List Value).toArray 3 := by rw [hav]
  rw [hen, lg_entry_eq]
  generalize (lg_sl [.ref (a 7), .ref (a 4)] ++ List.replicate (3 - (lg_sl [.ref (a 7), .ref (a 4)]).length) Slot.unset).toArray = ls at hl ⊢
  have hl : lv_has ls 3 [(0, .ref (a 7)), (1, .ref (a 4))] := hl
  have eR : (headSpec wsX0_takeFrom rmX0_takeFrom_p).room = rmX0_takeFrom_p := rfl
  rw [eR]
  have rt : ∀ (t : St) (pc : Nat) (H : Heap) (locs : List Loc) (ls : Array Slot), decode cX0_takeFrom pc = .ok (.return_, 1) → some t = some σ2 → zz (dC, dI) 30 a (wdC cI cZ a t) s.heap H locs → W p l e rmX0_takeFrom_p s m args below meth c H locs 0 0 (MQ below (Qzv (dC, dI) 30 a (wdC cI cZ a σ2) sz) args s 0 0 (aN 30 a sz)) (F0 m pc ls []) := by
    intro t pc H locs ls hd h hz
    cases h
    exact zvret hsz hx hb hr hlocks hz hd
  generalize (MQ below (Qzv (dC, dI) 30 a (wdC cI cZ a σ2) sz) args s 0 0 (aN 30 a sz)) = Q at rt ⊢
  have s6 : ∀ (k6 : St → Int32 → Option (St)) (hk6 : (∀ (σ : St) (y2 : Int32) (H : Heap) (locs : List Loc) (ls : Array Slot), k6 σ y2 = some σ2 → zz (dC, dI) 30 a (wdC cI cZ a σ) s.heap H locs → lv_has ls 3 [(0, .ref (a 7)), (1, .ref (a 4)), (2, .int y2)] → W p l e rmX0_takeFrom_p s m args below meth c H locs 0 0 Q (F0 m 6 ls []))) (σ : St) (y2 : Int32) (H : Heap) (locs : List Loc) (ls : Array Slot), fX0_takeFrom_p_s6 k6 σ y2 = some σ2 → zz (dC, dI) 30 a (wdC cI cZ a σ) s.heap H locs → lv_has ls 3 [(0, .ref (a 7)), (1, .ref (a 4)), (2, .int y2)] → W p l e rmX0_takeFrom_p s m args below meth c H locs 0 0 Q (F0 m 6 ls []) := by
    intro k6 hk6 σ y2 H locs ls h hz hl
    unfold fX0_takeFrom_p_s6 at h
    refine lv_iload_n hx hb dX0_takeFrom_6 rfl (lv_at hl 2 rfl) ?_
    refine lv_aload_n hx hb dX0_takeFrom_7 rfl (lv_at hl 1 rfl) ?_
    obtain ⟨r4, e6, h⟩ := bd1_e h
    refine zcallVi (As := []) (rest := [.int y2]) CF hKK (KX0_size_r (dC := dC) (dI := dI) (cI := cI) (cZ := cZ) (a := a) hok e6) (cwV 0 hts gX0_takeFrom_X0_size rfl rfl rfl cdX0_size ⟨Nat.le_of_ble_eq_true rfl, Nat.le_of_ble_eq_true rfl⟩) 4 0 rfl rfl hz rfl hl.1 rfl (Nat.le_of_ble_eq_true rfl) dX0_takeFrom_8 ⟨Nat.le_refl _, Nat.le_refl _⟩ (fun H locs hz => ?_)
    refine lv_icmp_ge (tgt := 41) hx hb dX0_takeFrom_11 (by decide) (fun c7 => ?_) (fun c7 => ?_)
    · replace h := ite_t c7 h
      exact rt σ 41 _ _ _ dX0_takeFrom_41 h hz
    · replace h := ite_f c7 h
      refine lv_iload_n hx hb dX0_takeFrom_14 rfl (lv_at hl 2 rfl) ?_
      refine lv_bipush (v := (24 : Int32)) hx hb dX0_takeFrom_15 (by decide) ?_
      refine lv_icmp_ge (tgt := 41) hx hb dX0_takeFrom_17 (by decide) (fun c8 => ?_) (fun c8 => ?_)
      · replace h := ite_t c8 h
        exact rt σ 41 _ _ _ dX0_takeFrom_41 h hz
      · replace h := ite_f c8 h
        refine lv_aload_n hx hb dX0_takeFrom_20 rfl (lv_at hl 0 rfl) ?_
        refine lv_aload_n hx hb dX0_takeFrom_21 rfl (lv_at hl 1 rfl) ?_
        refine lv_iload_n hx hb dX0_takeFrom_22 rfl (lv_at hl 2 rfl) ?_
        obtain ⟨r9, e11, h⟩ := bd1_e h
        refine zcallVi (As := [.int y2]) (rest := [.ref (a 7)]) CF hKK (KX0_kindOf_r (dC := dC) (dI := dI) (cI := cI) (cZ := cZ) (a := a) hok e11) (cwV 1 hts gX0_takeFrom_X0_kindOf rfl rfl rfl cdX0_kindOf ⟨Nat.le_of_ble_eq_true rfl, Nat.le_of_ble_eq_true rfl⟩) 4 0 rfl rfl hz rfl hl.1 rfl (Nat.le_of_ble_eq_true rfl) dX0_takeFrom_23 ⟨Nat.le_refl _, Nat.le_refl _⟩ (fun H locs hz => ?_)
        refine lv_aload_n hx hb dX0_takeFrom_26 rfl (lv_at hl 1 rfl) ?_
        refine lv_iload_n hx hb dX0_takeFrom_27 rfl (lv_at hl 2 rfl) ?_
        obtain ⟨r12, e14, h⟩ := bd1_e h
        refine zcallVi (As := [.int y2]) (rest := [.int r9, .ref (a 7)]) CF hKK (KX0_toldOf_r (dC := dC) (dI := dI) (cI := cI) (cZ := cZ) (a := a) hok e14) (cwV 1 hts gX0_takeFrom_X0_toldOf rfl rfl rfl cdX0_toldOf ⟨Nat.le_of_ble_eq_true rfl, Nat.le_of_ble_eq_true rfl⟩) 4 0 rfl rfl hz rfl hl.1 rfl (Nat.le_of_ble_eq_true rfl) dX0_takeFrom_28 ⟨Nat.le_refl _, Nat.le_refl _⟩ (fun H locs hz => ?_)
        obtain ⟨r15, s16, e17, h⟩ := bd2_e h
        refine zcallVi (As := [.int r9, .int r12]) (rest := []) CF hKK (KX0_add_p (dC := dC) (dI := dI) (cI := cI) (cZ := cZ) (a := a) hok e17) (cwV 2 hts gX0_takeFrom_X0_add rfl rfl rfl cdX0_add ⟨Nat.le_of_ble_eq_true rfl, Nat.le_of_ble_eq_true rfl⟩) 7 0 rfl rfl hz rfl hl.1 rfl (Nat.le_of_ble_eq_true rfl) dX0_takeFrom_31 ⟨Nat.le_refl _, Nat.le_refl _⟩ (fun H locs hz => ?_)
        refine lv_pop hx hb dX0_takeFrom_34 rfl ?_
        refine lv_iinc (v := (y2 + (1 : Int32))) (lv' := [(2, .int (y2 + (1 : Int32))), (0, .ref (a 7)), (1, .ref (a 4))]) hx hb dX0_takeFrom_35 hl (k := 2) rfl rfl (by decide) rfl (fun ls hl => ?_)
        refine lv_goto (tgt := 6) hx hb dX0_takeFrom_38 (by decide) ?_
        exact hk6 s16 (y2 + (1 : Int32)) _ _ _ h hz (lv_sub hl [1, 2, 0] rfl)
  have l6 : ∀  (n : Nat), ∀ (σ : St) (y2 : Int32) (H : Heap) (locs : List Loc) (ls : Array Slot), fX0_takeFrom_p_l6  n σ y2 = some σ2 → zz (dC, dI) 30 a (wdC cI cZ a σ) s.heap H locs → lv_has ls 3 [(0, .ref (a 7)), (1, .ref (a 4)), (2, .int y2)] → W p l e rmX0_takeFrom_p s m args below meth c H locs 0 0 Q (F0 m 6 ls []) := by
    intro  n
    induction n with
    | zero => intro σ y2 H locs ls h; exact nomatch h
    | succ n ih => exact s6  (fX0_takeFrom_p_l6  n) ih
  unfold fX0_takeFrom_p at h
  refine lv_aload_n hx hb dX0_takeFrom_0 rfl (lv_at hl 0 rfl) ?_
  obtain ⟨s2, e3, h⟩ := bd1_e h
  refine zcallVv (As := []) (rest := []) CF hKK (KX0_clear_p (dC := dC) (dI := dI) (cI := cI) (cZ := cZ) (a := a) hok e3) (cwV 0 hts gX0_takeFrom_X0_clear rfl rfl rfl cdX0_clear ⟨Nat.le_of_ble_eq_true rfl, Nat.le_of_ble_eq_true rfl⟩) 7 0 rfl rfl hz rfl hl.1 rfl (Nat.le_of_ble_eq_true rfl) dX0_takeFrom_1 ⟨Nat.le_refl _, Nat.le_refl _⟩ (fun H locs hz => ?_)
  refine lv_iconst (v := (0 : Int32)) hx hb dX0_takeFrom_4 (by decide) ?_
  refine lv_istore_n (lv' := [(2, .int (0 : Int32)), (0, .ref (a 7)), (1, .ref (a 4))]) hx hb dX0_takeFrom_5 rfl hl (by decide) rfl (fun ls hl => ?_)
  exact l6  FU s2 (0 : Int32) _ _ _ h hz (lv_sub hl [1, 2, 0] rfl)
def fX0_gaps_r (σ : St)  : Option (Int32) :=
  some (σ 47 0)
abbrev rmX0_gaps_r : Room := { frames := 0, cells := 0, slots := 0, locals := 0 }
set_option maxHeartbeats 4000000 in
set_option maxRecDepth 100000 in
theorem KX0_gaps_r {l : Launch} {dC : Nat → ClassId} {dI : Nat → Nat → Nat} {cI cZ : ClassId} {a : Nat → Nat} {σ : St}  {r : Int32} (hok : okA 30 a) (h : fX0_gaps_r σ  = some r) (sz : Nat) : Met l yX0_gaps wsX0_gaps rmX0_gaps_r (Pz (dC, dI) cI cZ (wdC cI cZ a σ) sz [.ref (a 4)]) (Qzi (dC, dI) 30 a (wdC cI cZ a σ) sz r) 0 0 (aN 30 a sz) := by
  refine Met.ofW (cc := cX0_gaps) (maxL := 1) (ret := (some .int)) (by decide) rfl ?_
  intro p e s m args below meth c s₁ B hml hv
  obtain ⟨hav, hsz, hP, hKK⟩ := hv
  have hx := B.exec
  have hb := B.bytes
  have hr := B.returns
  have hts := atoms_spec (ws := wsX0_gaps) B.pre
  have hown : s.vm.findClass RX0 = some m.cls := findClass_of_methodNamed B.named
  have hlocks := B.notSynchronized
  have CF : CallFix p m c cX0_gaps 1 s args wsX0_gaps RX0 := ⟨hx, hb, hml, hown, hts⟩
  have hz : zz (dC, dI) 30 a (wdC cI cZ a σ) s.heap s.heap [] := ⟨hP, va_S.rf⟩
  have hl := lv_entry [.ref (a 4)] (n := 1) (Nat.le_of_ble_eq_true rfl)
  have hen : entryFrame m args 1 = entryFrame m ([.ref (a 4)] : List Value).toArray 1 := by rw [hav]
  rw [hen, lg_entry_eq]
  generalize (lg_sl [.ref (a 4)] ++ List.replicate (1 - (lg_sl [.ref (a 4)]).length) Slot.unset).toArray = ls at hl ⊢
  have hl : lv_has ls 1 [(0, .ref (a 4))] := hl
  have eR : (headSpec wsX0_gaps rmX0_gaps_r).room = rmX0_gaps_r := rfl
  rw [eR]
  have rt : ∀ (v : Int32) (t : St) (pc : Nat) (H : Heap) (locs : List Loc) (ls : Array Slot), decode cX0_gaps pc = .ok (.ireturn, 1) → some v = some r → zz (dC, dI) 30 a (wdC cI cZ a σ) s.heap H locs → W p l e rmX0_gaps_r s m args below meth c H locs 0 0 (MQ below (Qzi (dC, dI) 30 a (wdC cI cZ a σ) sz r) args s 0 0 (aN 30 a sz)) (F0 m pc ls [.int v]) := by
    intro v t pc H locs ls hd h hz
    cases h
    exact ziret hsz hx hb hr hlocks hz hd
  generalize (MQ below (Qzi (dC, dI) 30 a (wdC cI cZ a σ) sz r) args s 0 0 (aN 30 a sz)) = Q at rt ⊢
  unfold fX0_gaps_r at h
  refine lv_aload_n hx hb dX0_gaps_0 rfl (lv_at hl 0 rfl) ?_
  refine va_get (v := .int (σ 47 0)) hx hb hts inX0_gaps_X0 hown hKK.1 hz.1 4 rfl rfl 3 (by decide) (hts _ (List.mem_of_getElem? (i := 1) rfl)) (fun _ h9 => h9) rfl dX0_gaps_1 ?_
  exact rt (σ 47 0) σ 4 _ _ _ dX0_gaps_4 h hz
def fX0_gaps_p (σ : St)  : Option (Int32) :=
  some (σ 49 0)
abbrev rmX0_gaps_p : Room := { frames := 0, cells := 0, slots := 0, locals := 0 }
set_option maxHeartbeats 4000000 in
set_option maxRecDepth 100000 in
theorem KX0_gaps_p {l : Launch} {dC : Nat → ClassId} {dI : Nat → Nat → Nat} {cI cZ : ClassId} {a : Nat → Nat} {σ : St}  {r : Int32} (hok : okA 30 a) (h : fX0_gaps_p σ  = some r) (sz : Nat) : Met l yX0_gaps wsX0_gaps rmX0_gaps_p (Pz (dC, dI) cI cZ (wdC cI cZ a σ) sz [.ref (a 7)]) (Qzi (dC, dI) 30 a (wdC cI cZ a σ) sz r) 0 0 (aN 30 a sz) := by
  refine Met.ofW (cc := cX0_gaps) (maxL := 1) (ret := (some .int)) (by decide) rfl ?_
  intro p e s m args below meth c s₁ B hml hv
  obtain ⟨hav, hsz, hP, hKK⟩ := hv
  have hx := B.exec
  have hb := B.bytes
  have hr := B.returns
  have hts := atoms_spec (ws := wsX0_gaps) B.pre
  have hown : s.vm.findClass RX0 = some m.cls := findClass_of_methodNamed B.named
  have hlocks := B.notSynchronized
  have CF : CallFix p m c cX0_gaps 1 s args wsX0_gaps RX0 := ⟨hx, hb, hml, hown, hts⟩
  have hz : zz (dC, dI) 30 a (wdC cI cZ a σ) s.heap s.heap [] := ⟨hP, va_S.rf⟩
  have hl := lv_entry [.ref (a 7)] (n := 1) (Nat.le_of_ble_eq_true rfl)
  have hen : entryFrame m args 1 = entryFrame m ([.ref (a 7)] : List Value).toArray 1 := by rw [hav]
  rw [hen, lg_entry_eq]
  generalize (lg_sl [.ref (a 7)] ++ List.replicate (1 - (lg_sl [.ref (a 7)]).length) Slot.unset).toArray = ls at hl ⊢
  have hl : lv_has ls 1 [(0, .ref (a 7))] := hl
  have eR : (headSpec wsX0_gaps rmX0_gaps_p).room = rmX0_gaps_p := rfl
  rw [eR]
  have rt : ∀ (v : Int32) (t : St) (pc : Nat) (H : Heap) (locs : List Loc) (ls : Array Slot), decode cX0_gaps pc = .ok (.ireturn, 1) → some v = some r → zz (dC, dI) 30 a (wdC cI cZ a σ) s.heap H locs → W p l e rmX0_gaps_p s m args below meth c H locs 0 0 (MQ below (Qzi (dC, dI) 30 a (wdC cI cZ a σ) sz r) args s 0 0 (aN 30 a sz)) (F0 m pc ls [.int v]) := by
    intro v t pc H locs ls hd h hz
    cases h
    exact ziret hsz hx hb hr hlocks hz hd
  generalize (MQ below (Qzi (dC, dI) 30 a (wdC cI cZ a σ) sz r) args s 0 0 (aN 30 a sz)) = Q at rt ⊢
  unfold fX0_gaps_p at h
  refine lv_aload_n hx hb dX0_gaps_0 rfl (lv_at hl 0 rfl) ?_
  refine va_get (v := .int (σ 49 0)) hx hb hts inX0_gaps_X0 hown hKK.1 hz.1 7 rfl rfl 3 (by decide) (hts _ (List.mem_of_getElem? (i := 1) rfl)) (fun _ h9 => h9) rfl dX0_gaps_1 ?_
  exact rt (σ 49 0) σ 4 _ _ _ dX0_gaps_4 h hz
def fX0_tell_r (σ : St) (x1 : Int32) (x2 : Int32) : Option (St) :=
  (bd1 (fX0_has_r σ x1) fun r1 => (if r1 = 0 then (some σ) else ((ck (¬ (x1 < 0 ∨ 24 ≤ Int32.toNatClampNeg x1)) <| some (sa σ 6 (Int32.toNatClampNeg x1) x2)))))
abbrev rmX0_tell_r : Room := { frames := 1, cells := 0, slots := 0, locals := 21 }
set_option maxHeartbeats 4000000 in
set_option maxRecDepth 100000 in
theorem KX0_tell_r {l : Launch} {dC : Nat → ClassId} {dI : Nat → Nat → Nat} {cI cZ : ClassId} {a : Nat → Nat} {σ : St} {x1 : Int32} {x2 : Int32} {σ2 : St} (hok : okA 30 a) (h : fX0_tell_r σ x1 x2 = some σ2) (sz : Nat) : Met l yX0_tell wsX0_tell rmX0_tell_r (Pz (dC, dI) cI cZ (wdC cI cZ a σ) sz [.ref (a 4), .int x1, .int x2]) (Qzv (dC, dI) 30 a (wdC cI cZ a σ2) sz) 0 0 (aN 30 a sz) := by
  refine Met.ofW (cc := cX0_tell) (maxL := 3) (ret := none) (by decide) rfl ?_
  intro p e s m args below meth c s₁ B hml hv
  obtain ⟨hav, hsz, hP, hKK⟩ := hv
  have hx := B.exec
  have hb := B.bytes
  have hr := B.returns
  have hts := atoms_spec (ws := wsX0_tell) B.pre
  have hown : s.vm.findClass RX0 = some m.cls := findClass_of_methodNamed B.named
  have hlocks := B.notSynchronized
  have CF : CallFix p m c cX0_tell 3 s args wsX0_tell RX0 := ⟨hx, hb, hml, hown, hts⟩
  have hz : zz (dC, dI) 30 a (wdC cI cZ a σ) s.heap s.heap [] := ⟨hP, va_S.rf⟩
  have hl := lv_entry [.ref (a 4), .int x1, .int x2] (n := 3) (Nat.le_of_ble_eq_true rfl)
  have hen : entryFrame m args 3 = entryFrame m ([.ref (a 4), .int x1, .int x2] : List Value).toArray 3 := by rw [hav]
  rw [hen, lg_entry_eq]
  generalize (lg_sl [.ref (a 4), .int x1, .int x2] ++ List.replicate (3 - (lg_sl [.ref (a 4), .int x1, .int x2]).length) Slot.unset).toArray = ls at hl ⊢
  have hl : lv_has ls 3 [(0, .ref (a 4)), (1, .int x1), (2, .int x2)] := hl
  have eR : (headSpec wsX0_tell rmX0_tell_r).room = rmX0_tell_r := rfl
  rw [eR]
  have rt : ∀ (t : St) (pc : Nat) (H : Heap) (locs : List Loc) (ls : Array Slot), decode cX0_tell pc = .ok (.return_, 1) → some t = some σ2 → zz (dC, dI) 30 a (wdC cI cZ a t) s.heap H locs → W p l e rmX0_tell_r s m args below meth c H locs 0 0 (MQ below (Qzv (dC, dI) 30 a (wdC cI cZ a σ2) sz) args s 0 0 (aN 30 a sz)) (F0 m pc ls []) := by
    intro t pc H locs ls hd h hz
    cases h
    exact zvret hsz hx hb hr hlocks hz hd
  generalize (MQ below (Qzv (dC, dI) 30 a (wdC cI cZ a σ2) sz) args s 0 0 (aN 30 a sz)) = Q at rt ⊢
  unfold fX0_tell_r at h
  refine lv_aload_n hx hb dX0_tell_0 rfl (lv_at hl 0 rfl) ?_
  refine lv_iload_n hx hb dX0_tell_1 rfl (lv_at hl 1 rfl) ?_
  obtain ⟨r1, e3, h⟩ := bd1_e h
  refine zcallVi (As := [.int x1]) (rest := []) CF hKK (KX0_has_r (dC := dC) (dI := dI) (cI := cI) (cZ := cZ) (a := a) hok e3) (cwV 1 hts gX0_tell_X0_has rfl rfl rfl cdX0_has ⟨Nat.le_of_ble_eq_true rfl, Nat.le_of_ble_eq_true rfl⟩) 4 0 rfl rfl hz rfl hl.1 rfl (Nat.le_of_ble_eq_true rfl) dX0_tell_2 ⟨Nat.le_refl _, Nat.le_refl _⟩ (fun H locs hz => ?_)
  refine lv_if_eq (tgt := 15) hx hb dX0_tell_5 (by decide) (fun c4 => ?_) (fun c4 => ?_)
  · replace h := ite_t c4 h
    exact rt σ 15 _ _ _ dX0_tell_15 h hz
  · replace h := ite_f c4 h
    refine lv_aload_n hx hb dX0_tell_8 rfl (lv_at hl 0 rfl) ?_
    refine va_get (v := .ref (a 6)) hx hb hts inX0_tell_X0 hown hKK.1 hz.1 4 rfl rfl 1 (by decide) (hts _ (List.mem_of_getElem? (i := 1) rfl)) (fun _ h9 => h9) rfl dX0_tell_9 ?_
    refine lv_iload_n hx hb dX0_tell_12 rfl (lv_at hl 1 rfl) ?_
    refine lv_iload_n hx hb dX0_tell_13 rfl (lv_at hl 2 rfl) ?_
    obtain ⟨c5, h⟩ := ck_e h
    refine ziast (f := σ 6) (w' := wdC cI cZ a (sa σ 6 (Int32.toNatClampNeg x1) x2)) hx hb hKK hok wkC hz 6 rfl c5 setCa_6 dX0_tell_14 (fun H locs hz => ?_)
    exact rt (sa σ 6 (Int32.toNatClampNeg x1) x2) 15 _ _ _ dX0_tell_15 h hz
def fX0_tell_p (σ : St) (x1 : Int32) (x2 : Int32) : Option (St) :=
  (bd1 (fX0_has_p σ x1) fun r1 => (if r1 = 0 then (some σ) else ((ck (¬ (x1 < 0 ∨ 24 ≤ Int32.toNatClampNeg x1)) <| some (sa σ 9 (Int32.toNatClampNeg x1) x2)))))
abbrev rmX0_tell_p : Room := { frames := 1, cells := 0, slots := 0, locals := 21 }
set_option maxHeartbeats 4000000 in
set_option maxRecDepth 100000 in
theorem KX0_tell_p {l : Launch} {dC : Nat → ClassId} {dI : Nat → Nat → Nat} {cI cZ : ClassId} {a : Nat → Nat} {σ : St} {x1 : Int32} {x2 : Int32} {σ2 : St} (hok : okA 30 a) (h : fX0_tell_p σ x1 x2 = some σ2) (sz : Nat) : Met l yX0_tell wsX0_tell rmX0_tell_p (Pz (dC, dI) cI cZ (wdC cI cZ a σ) sz [.ref (a 7), .int x1, .int x2]) (Qzv (dC, dI) 30 a (wdC cI cZ a σ2) sz) 0 0 (aN 30 a sz) := by
  refine Met.ofW (cc := cX0_tell) (maxL := 3) (ret := none) (by decide) rfl ?_
  intro p e s m args below meth c s₁ B hml hv
  obtain ⟨hav, hsz, hP, hKK⟩ := hv
  have hx := B.exec
  have hb := B.bytes
  have hr := B.returns
  have hts := atoms_spec (ws := wsX0_tell) B.pre
  have hown : s.vm.findClass RX0 = some m.cls := findClass_of_methodNamed B.named
  have hlocks := B.notSynchronized
  have CF : CallFix p m c cX0_tell 3 s args wsX0_tell RX0 := ⟨hx, hb, hml, hown, hts⟩
  have hz : zz (dC, dI) 30 a (wdC cI cZ a σ) s.heap s.heap [] := ⟨hP, va_S.rf⟩
  have hl := lv_entry [.ref (a 7), .int x1, .int x2] (n := 3) (Nat.le_of_ble_eq_true rfl)
  have hen : entryFrame m args 3 = entryFrame m ([.ref (a 7), .int x1, .int x2] : List Value).toArray 3 := by rw [hav]
  rw [hen, lg_entry_eq]
  generalize (lg_sl [.ref (a 7), .int x1, .int x2] ++ List.replicate (3 - (lg_sl [.ref (a 7), .int x1, .int x2]).length) Slot.unset).toArray = ls at hl ⊢
  have hl : lv_has ls 3 [(0, .ref (a 7)), (1, .int x1), (2, .int x2)] := hl
  have eR : (headSpec wsX0_tell rmX0_tell_p).room = rmX0_tell_p := rfl
  rw [eR]
  have rt : ∀ (t : St) (pc : Nat) (H : Heap) (locs : List Loc) (ls : Array Slot), decode cX0_tell pc = .ok (.return_, 1) → some t = some σ2 → zz (dC, dI) 30 a (wdC cI cZ a t) s.heap H locs → W p l e rmX0_tell_p s m args below meth c H locs 0 0 (MQ below (Qzv (dC, dI) 30 a (wdC cI cZ a σ2) sz) args s 0 0 (aN 30 a sz)) (F0 m pc ls []) := by
    intro t pc H locs ls hd h hz
    cases h
    exact zvret hsz hx hb hr hlocks hz hd
  generalize (MQ below (Qzv (dC, dI) 30 a (wdC cI cZ a σ2) sz) args s 0 0 (aN 30 a sz)) = Q at rt ⊢
  unfold fX0_tell_p at h
  refine lv_aload_n hx hb dX0_tell_0 rfl (lv_at hl 0 rfl) ?_
  refine lv_iload_n hx hb dX0_tell_1 rfl (lv_at hl 1 rfl) ?_
  obtain ⟨r1, e3, h⟩ := bd1_e h
  refine zcallVi (As := [.int x1]) (rest := []) CF hKK (KX0_has_p (dC := dC) (dI := dI) (cI := cI) (cZ := cZ) (a := a) hok e3) (cwV 1 hts gX0_tell_X0_has rfl rfl rfl cdX0_has ⟨Nat.le_of_ble_eq_true rfl, Nat.le_of_ble_eq_true rfl⟩) 7 0 rfl rfl hz rfl hl.1 rfl (Nat.le_of_ble_eq_true rfl) dX0_tell_2 ⟨Nat.le_refl _, Nat.le_refl _⟩ (fun H locs hz => ?_)
  refine lv_if_eq (tgt := 15) hx hb dX0_tell_5 (by decide) (fun c4 => ?_) (fun c4 => ?_)
  · replace h := ite_t c4 h
    exact rt σ 15 _ _ _ dX0_tell_15 h hz
  · replace h := ite_f c4 h
    refine lv_aload_n hx hb dX0_tell_8 rfl (lv_at hl 0 rfl) ?_
    refine va_get (v := .ref (a 9)) hx hb hts inX0_tell_X0 hown hKK.1 hz.1 7 rfl rfl 1 (by decide) (hts _ (List.mem_of_getElem? (i := 1) rfl)) (fun _ h9 => h9) rfl dX0_tell_9 ?_
    refine lv_iload_n hx hb dX0_tell_12 rfl (lv_at hl 1 rfl) ?_
    refine lv_iload_n hx hb dX0_tell_13 rfl (lv_at hl 2 rfl) ?_
    obtain ⟨c5, h⟩ := ck_e h
    refine ziast (f := σ 9) (w' := wdC cI cZ a (sa σ 9 (Int32.toNatClampNeg x1) x2)) hx hb hKK hok wkC hz 9 rfl c5 setCa_9 dX0_tell_14 (fun H locs hz => ?_)
    exact rt (sa σ 9 (Int32.toNatClampNeg x1) x2) 15 _ _ _ dX0_tell_15 h hz
def fX1_length (σ : St)  : Option (Int32) :=
  some (σ 42 0)
abbrev rmX1_length : Room := { frames := 0, cells := 0, slots := 0, locals := 0 }
set_option maxHeartbeats 4000000 in
set_option maxRecDepth 100000 in
theorem KX1_length {l : Launch} {dC : Nat → ClassId} {dI : Nat → Nat → Nat} {cI cZ : ClassId} {a : Nat → Nat} {σ : St}  {r : Int32} (hok : okA 30 a) (h : fX1_length σ  = some r) (sz : Nat) : Met l yX1_length wsX1_length rmX1_length (Pz (dC, dI) cI cZ (wdC cI cZ a σ) sz [.ref (a 1)]) (Qzi (dC, dI) 30 a (wdC cI cZ a σ) sz r) 0 0 (aN 30 a sz) := by
  refine Met.ofW (cc := cX1_length) (maxL := 1) (ret := (some .int)) (by decide) rfl ?_
  intro p e s m args below meth c s₁ B hml hv
  obtain ⟨hav, hsz, hP, hKK⟩ := hv
  have hx := B.exec
  have hb := B.bytes
  have hr := B.returns
  have hts := atoms_spec (ws := wsX1_length) B.pre
  have hown : s.vm.findClass RX1 = some m.cls := findClass_of_methodNamed B.named
  have hlocks := B.notSynchronized
  have CF : CallFix p m c cX1_length 1 s args wsX1_length RX1 := ⟨hx, hb, hml, hown, hts⟩
  have hz : zz (dC, dI) 30 a (wdC cI cZ a σ) s.heap s.heap [] := ⟨hP, va_S.rf⟩
  have hl := lv_entry [.ref (a 1)] (n := 1) (Nat.le_of_ble_eq_true rfl)
  have hen : entryFrame m args 1 = entryFrame m ([.ref (a 1)] : List Value).toArray 1 := by rw [hav]
  rw [hen, lg_entry_eq]
  generalize (lg_sl [.ref (a 1)] ++ List.replicate (1 - (lg_sl [.ref (a 1)]).length) Slot.unset).toArray = ls at hl ⊢
  have hl : lv_has ls 1 [(0, .ref (a 1))] := hl
  have eR : (headSpec wsX1_length rmX1_length).room = rmX1_length := rfl
  rw [eR]
  have rt : ∀ (v : Int32) (t : St) (pc : Nat) (H : Heap) (locs : List Loc) (ls : Array Slot), decode cX1_length pc = .ok (.ireturn, 1) → some v = some r → zz (dC, dI) 30 a (wdC cI cZ a σ) s.heap H locs → W p l e rmX1_length s m args below meth c H locs 0 0 (MQ below (Qzi (dC, dI) 30 a (wdC cI cZ a σ) sz r) args s 0 0 (aN 30 a sz)) (F0 m pc ls [.int v]) := by
    intro v t pc H locs ls hd h hz
    cases h
    exact ziret hsz hx hb hr hlocks hz hd
  generalize (MQ below (Qzi (dC, dI) 30 a (wdC cI cZ a σ) sz r) args s 0 0 (aN 30 a sz)) = Q at rt ⊢
  unfold fX1_length at h
  refine lv_aload_n hx hb dX1_length_0 rfl (lv_at hl 0 rfl) ?_
  refine va_get (v := .int (σ 42 0)) hx hb hts inX1_length_X1 hown hKK.1 hz.1 1 rfl rfl 1 (by decide) (hts _ (List.mem_of_getElem? (i := 1) rfl)) (fun _ h9 => h9) rfl dX1_length_1 ?_
  exact rt (σ 42 0) σ 4 _ _ _ dX1_length_4 h hz
def fX1_append (σ : St) (x1 : Int32) : Option (Int32 × St) :=
  (if (σ 42 0) < 0 then (some ((0 : Int32), σ)) else ((if (σ 42 0) < (50 : Int32) then ((ck (¬ ((σ 42 0) < 0 ∨ 50 ≤ Int32.toNatClampNeg (σ 42 0))) <| some ((1 : Int32), (si (sa σ 2 (Int32.toNatClampNeg (σ 42 0)) x1) 42 ((σ 42 0) + (1 : Int32)))))) else (some ((0 : Int32), σ)))))
abbrev rmX1_append : Room := { frames := 0, cells := 0, slots := 0, locals := 0 }
set_option maxHeartbeats 4000000 in
set_option maxRecDepth 100000 in
theorem KX1_append {l : Launch} {dC : Nat → ClassId} {dI : Nat → Nat → Nat} {cI cZ : ClassId} {a : Nat → Nat} {σ : St} {x1 : Int32} {r : Int32} {σ2 : St} (hok : okA 30 a) (h : fX1_append σ x1 = some (r, σ2)) (sz : Nat) : Met l yX1_append wsX1_append rmX1_append (Pz (dC, dI) cI cZ (wdC cI cZ a σ) sz [.ref (a 1), .int x1]) (Qzi (dC, dI) 30 a (wdC cI cZ a σ2) sz r) 0 0 (aN 30 a sz) := by
  refine Met.ofW (cc := cX1_append) (maxL := 2) (ret := (some .boolean)) (by decide) rfl ?_
  intro p e s m args below meth c s₁ B hml hv
  obtain ⟨hav, hsz, hP, hKK⟩ := hv
  have hx := B.exec
  have hb := B.bytes
  have hr := B.returns
  have hts := atoms_spec (ws := wsX1_append) B.pre
  have hown : s.vm.findClass RX1 = some m.cls := findClass_of_methodNamed B.named
  have hlocks := B.notSynchronized
  have CF : CallFix p m c cX1_append 2 s args wsX1_append RX1 := ⟨hx, hb, hml, hown, hts⟩
  have hz : zz (dC, dI) 30 a (wdC cI cZ a σ) s.heap s.heap [] := ⟨hP, va_S.rf⟩
  have hl := lv_entry [.ref (a 1), .int x1] (n := 2) (Nat.le_of_ble_eq_true rfl)
  have hen : entryFrame m args 2 = entryFrame m ([.ref (a 1), .int x1] : List Value).toArray 2 := by rw [hav]
  rw [hen, lg_entry_eq]
  generalize (lg_sl [.ref (a 1), .int x1] ++ List.replicate (2 - (lg_sl [.ref (a 1), .int x1]).length) Slot.unset).toArray = ls at hl ⊢
  have hl : lv_has ls 2 [(0, .ref (a 1)), (1, .int x1)] := hl
  have eR : (headSpec wsX1_append rmX1_append).room = rmX1_append := rfl
  rw [eR]
  have rt : ∀ (v : Int32) (t : St) (pc : Nat) (H : Heap) (locs : List Loc) (ls : Array Slot), decode cX1_append pc = .ok (.ireturn, 1) → some (v, t) = some (r, σ2) → zz (dC, dI) 30 a (wdC cI cZ a t) s.heap H locs → (v = 0 ∨ v = 1) → W p l e rmX1_append s m args below meth c H locs 0 0 (MQ below (Qzi (dC, dI) 30 a (wdC cI cZ a σ2) sz r) args s 0 0 (aN 30 a sz)) (F0 m pc ls [.int v]) := by
    intro v t pc H locs ls hd h hz hv
    cases h
    exact zzret hsz hx hb hr hlocks hv hz hd
  generalize (MQ below (Qzi (dC, dI) 30 a (wdC cI cZ a σ2) sz r) args s 0 0 (aN 30 a sz)) = Q at rt ⊢
  unfold fX1_append at h
  refine lv_aload_n hx hb dX1_append_0 rfl (lv_at hl 0 rfl) ?_
  refine va_get (v := .int (σ 42 0)) hx hb hts inX1_append_X1 hown hKK.1 hz.1 1 rfl rfl 1 (by decide) (hts _ (List.mem_of_getElem? (i := 1) rfl)) (fun _ h9 => h9) rfl dX1_append_1 ?_
  refine lv_if_lt (tgt := 19) hx hb dX1_append_4 (by decide) (fun c1 => ?_) (fun c1 => ?_)
  · replace h := ite_t c1 h
    refine lv_iconst (v := (0 : Int32)) hx hb dX1_append_19 (by decide) ?_
    exact rt (0 : Int32) σ 20 _ _ _ dX1_append_20 h hz (Or.inl rfl)
  · replace h := ite_f c1 h
    refine lv_aload_n hx hb dX1_append_7 rfl (lv_at hl 0 rfl) ?_
    refine va_get (v := .int (σ 42 0)) hx hb hts inX1_append_X1 hown hKK.1 hz.1 1 rfl rfl 1 (by decide) (hts _ (List.mem_of_getElem? (i := 1) rfl)) (fun _ h9 => h9) rfl dX1_append_8 ?_
    refine lv_aload_n hx hb dX1_append_11 rfl (lv_at hl 0 rfl) ?_
    refine va_get (v := .ref (a 2)) hx hb hts inX1_append_X1 hown hKK.1 hz.1 1 rfl rfl 0 (by decide) (hts _ (List.mem_of_getElem? (i := 2) rfl)) (fun _ h9 => h9) rfl dX1_append_12 ?_
    refine va_alen (v := (50 : Int32)) hx hb hKK.1 hz.1 2 0 rfl rfl rfl dX1_append_15 ?_
    refine lv_icmp_lt (tgt := 21) hx hb dX1_append_16 (by decide) (fun c2 => ?_) (fun c2 => ?_)
    · replace h := ite_t c2 h
      refine lv_aload_n hx hb dX1_append_21 rfl (lv_at hl 0 rfl) ?_
      refine va_get (v := .ref (a 2)) hx hb hts inX1_append_X1 hown hKK.1 hz.1 1 rfl rfl 0 (by decide) (hts _ (List.mem_of_getElem? (i := 2) rfl)) (fun _ h9 => h9) rfl dX1_append_22 ?_
      refine lv_aload_n hx hb dX1_append_25 rfl (lv_at hl 0 rfl) ?_
      refine va_get (v := .int (σ 42 0)) hx hb hts inX1_append_X1 hown hKK.1 hz.1 1 rfl rfl 1 (by decide) (hts _ (List.mem_of_getElem? (i := 1) rfl)) (fun _ h9 => h9) rfl dX1_append_26 ?_
      refine lv_iload_n hx hb dX1_append_29 rfl (lv_at hl 1 rfl) ?_
      obtain ⟨c3, h⟩ := ck_e h
      refine ziast (f := σ 2) (w' := wdC cI cZ a (sa σ 2 (Int32.toNatClampNeg (σ 42 0)) x1)) hx hb hKK hok wkC hz 2 rfl c3 setCa_2 dX1_append_30 (fun H locs hz => ?_)
      refine lv_aload_n hx hb dX1_append_31 rfl (lv_at hl 0 rfl) ?_
      refine lv_dup hx hb dX1_append_32 rfl ?_
      refine va_get (v := .int (σ 42 0)) hx hb hts inX1_append_X1 hown hKK.1 hz.1 1 rfl rfl 1 (by decide) (hts _ (List.mem_of_getElem? (i := 1) rfl)) (fun _ h9 => h9) rfl dX1_append_33 ?_
      refine lv_iconst (v := (1 : Int32)) hx hb dX1_append_36 (by decide) ?_
      refine lv_iadd hx hb dX1_append_37 ?_
      refine zput (ty := .int) (w' := wdC cI cZ a (si (sa σ 2 (Int32.toNatClampNeg (σ 42 0)) x1) 42 ((σ 42 0) + (1 : Int32)))) hx hb hts inX1_append_X1 tyX1 tyX1_ok nmX1 hown hKK hok wkC hz 1 rfl rfl 1 (by decide) (hts _ (List.mem_of_getElem? (i := 1) rfl)) (fun _ h9 => h9) rfl rfl rfl rfl (Nat.le_of_ble_eq_true rfl) setCi_42 dX1_append_38 (fun H locs hz => ?_)
      refine lv_iconst (v := (1 : Int32)) hx hb dX1_append_41 (by decide) ?_
      exact rt (1 : Int32) (si (sa σ 2 (Int32.toNatClampNeg (σ 42 0)) x1) 42 ((σ 42 0) + (1 : Int32))) 42 _ _ _ dX1_append_42 h hz (Or.inr rfl)
    · replace h := ite_f c2 h
      refine lv_iconst (v := (0 : Int32)) hx hb dX1_append_19 (by decide) ?_
      exact rt (0 : Int32) σ 20 _ _ _ dX1_append_20 h hz (Or.inl rfl)
def fX1_clear (σ : St)  : Option (St) :=
  some (si σ 42 (0 : Int32))
abbrev rmX1_clear : Room := { frames := 0, cells := 0, slots := 0, locals := 0 }
set_option maxHeartbeats 4000000 in
set_option maxRecDepth 100000 in
theorem KX1_clear {l : Launch} {dC : Nat → ClassId} {dI : Nat → Nat → Nat} {cI cZ : ClassId} {a : Nat → Nat} {σ : St}  {σ2 : St} (hok : okA 30 a) (h : fX1_clear σ  = some σ2) (sz : Nat) : Met l yX1_clear wsX1_clear rmX1_clear (Pz (dC, dI) cI cZ (wdC cI cZ a σ) sz [.ref (a 1)]) (Qzv (dC, dI) 30 a (wdC cI cZ a σ2) sz) 0 0 (aN 30 a sz) := by
  refine Met.ofW (cc := cX1_clear) (maxL := 1) (ret := none) (by decide) rfl ?_
  intro p e s m args below meth c s₁ B hml hv
  obtain ⟨hav, hsz, hP, hKK⟩ := hv
  have hx := B.exec
  have hb := B.bytes
  have hr := B.returns
  have hts := atoms_spec (ws := wsX1_clear) B.pre
  have hown : s.vm.findClass RX1 = some m.cls := findClass_of_methodNamed B.named
  have hlocks := B.notSynchronized
  have CF : CallFix p m c cX1_clear 1 s args wsX1_clear RX1 := ⟨hx, hb, hml, hown, hts⟩
  have hz : zz (dC, dI) 30 a (wdC cI cZ a σ) s.heap s.heap [] := ⟨hP, va_S.rf⟩
  have hl := lv_entry [.ref (a 1)] (n := 1) (Nat.le_of_ble_eq_true rfl)
  have hen : entryFrame m args 1 = entryFrame m ([.ref (a 1)] : List Value).toArray 1 := by rw [hav]
  rw [hen, lg_entry_eq]
  generalize (lg_sl [.ref (a 1)] ++ List.replicate (1 - (lg_sl [.ref (a 1)]).length) Slot.unset).toArray = ls at hl ⊢
  have hl : lv_has ls 1 [(0, .ref (a 1))] := hl
  have eR : (headSpec wsX1_clear rmX1_clear).room = rmX1_clear := rfl
  rw [eR]
  have rt : ∀ (t : St) (pc : Nat) (H : Heap) (locs : List Loc) (ls : Array Slot), decode cX1_clear pc = .ok (.return_, 1) → some t = some σ2 → zz (dC, dI) 30 a (wdC cI cZ a t) s.heap H locs → W p l e rmX1_clear s m args below meth c H locs 0 0 (MQ below (Qzv (dC, dI) 30 a (wdC cI cZ a σ2) sz) args s 0 0 (aN 30 a sz)) (F0 m pc ls []) := by
    intro t pc H locs ls hd h hz
    cases h
    exact zvret hsz hx hb hr hlocks hz hd
  generalize (MQ below (Qzv (dC, dI) 30 a (wdC cI cZ a σ2) sz) args s 0 0 (aN 30 a sz)) = Q at rt ⊢
  unfold fX1_clear at h
  refine lv_aload_n hx hb dX1_clear_0 rfl (lv_at hl 0 rfl) ?_
  refine lv_iconst (v := (0 : Int32)) hx hb dX1_clear_1 (by decide) ?_
  refine zput (ty := .int) (w' := wdC cI cZ a (si σ 42 (0 : Int32))) hx hb hts inX1_clear_X1 tyX1 tyX1_ok nmX1 hown hKK hok wkC hz 1 rfl rfl 1 (by decide) (hts _ (List.mem_of_getElem? (i := 1) rfl)) (fun _ h9 => h9) rfl rfl rfl rfl (Nat.le_of_ble_eq_true rfl) setCi_42 dX1_clear_2 (fun H locs hz => ?_)
  exact rt (si σ 42 (0 : Int32)) 5 _ _ _ dX1_clear_5 h hz
def fX1_letterAt (σ : St) (x1 : Int32) : Option (Int32) :=
  (if x1 < 0 then (some (-1 : Int32)) else ((if (σ 42 0) ≤ x1 then (some (-1 : Int32)) else ((if (50 : Int32) ≤ x1 then (some (-1 : Int32)) else ((ck (¬ (x1 < 0 ∨ 50 ≤ Int32.toNatClampNeg x1)) <| some ((σ 2) (Int32.toNatClampNeg x1)))))))))
abbrev rmX1_letterAt : Room := { frames := 0, cells := 0, slots := 0, locals := 0 }
set_option maxHeartbeats 4000000 in
set_option maxRecDepth 100000 in
theorem KX1_letterAt {l : Launch} {dC : Nat → ClassId} {dI : Nat → Nat → Nat} {cI cZ : ClassId} {a : Nat → Nat} {σ : St} {x1 : Int32} {r : Int32} (hok : okA 30 a) (h : fX1_letterAt σ x1 = some r) (sz : Nat) : Met l yX1_letterAt wsX1_letterAt rmX1_letterAt (Pz (dC, dI) cI cZ (wdC cI cZ a σ) sz [.ref (a 1), .int x1]) (Qzi (dC, dI) 30 a (wdC cI cZ a σ) sz r) 0 0 (aN 30 a sz) := by
  refine Met.ofW (cc := cX1_letterAt) (maxL := 2) (ret := (some .int)) (by decide) rfl ?_
  intro p e s m args below meth c s₁ B hml hv
  obtain ⟨hav, hsz, hP, hKK⟩ := hv
  have hx := B.exec
  have hb := B.bytes
  have hr := B.returns
  have hts := atoms_spec (ws := wsX1_letterAt) B.pre
  have hown : s.vm.findClass RX1 = some m.cls := findClass_of_methodNamed B.named
  have hlocks := B.notSynchronized
  have CF : CallFix p m c cX1_letterAt 2 s args wsX1_letterAt RX1 := ⟨hx, hb, hml, hown, hts⟩
  have hz : zz (dC, dI) 30 a (wdC cI cZ a σ) s.heap s.heap [] := ⟨hP, va_S.rf⟩
  have hl := lv_entry [.ref (a 1), .int x1] (n := 2) (Nat.le_of_ble_eq_true rfl)
  have hen : entryFrame m args 2 = entryFrame m ([.ref (a 1), .int x1] : List Value).toArray 2 := by rw [hav]
  rw [hen, lg_entry_eq]
  generalize (lg_sl [.ref (a 1), .int x1] ++ List.replicate (2 - (lg_sl [.ref (a 1), .int x1]).length) Slot.unset).toArray = ls at hl ⊢
  have hl : lv_has ls 2 [(0, .ref (a 1)), (1, .int x1)] := hl
  have eR : (headSpec wsX1_letterAt rmX1_letterAt).room = rmX1_letterAt := rfl
  rw [eR]
  have rt : ∀ (v : Int32) (t : St) (pc : Nat) (H : Heap) (locs : List Loc) (ls : Array Slot), decode cX1_letterAt pc = .ok (.ireturn, 1) → some v = some r → zz (dC, dI) 30 a (wdC cI cZ a σ) s.heap H locs → W p l e rmX1_letterAt s m args below meth c H locs 0 0 (MQ below (Qzi (dC, dI) 30 a (wdC cI cZ a σ) sz r) args s 0 0 (aN 30 a sz)) (F0 m pc ls [.int v]) := by
    intro v t pc H locs ls hd h hz
    cases h
    exact ziret hsz hx hb hr hlocks hz hd
  generalize (MQ below (Qzi (dC, dI) 30 a (wdC cI cZ a σ) sz r) args s 0 0 (aN 30 a sz)) = Q at rt ⊢
  unfold fX1_letterAt at h
  refine lv_iload_n hx hb dX1_letterAt_0 rfl (lv_at hl 1 rfl) ?_
  refine lv_if_lt (tgt := 30) hx hb dX1_letterAt_1 (by decide) (fun c1 => ?_) (fun c1 => ?_)
  · replace h := ite_t c1 h
    refine lv_iconst (v := (-1 : Int32)) hx hb dX1_letterAt_30 (by decide) ?_
    exact rt (-1 : Int32) σ 31 _ _ _ dX1_letterAt_31 h hz
  · replace h := ite_f c1 h
    refine lv_iload_n hx hb dX1_letterAt_4 rfl (lv_at hl 1 rfl) ?_
    refine lv_aload_n hx hb dX1_letterAt_5 rfl (lv_at hl 0 rfl) ?_
    refine va_get (v := .int (σ 42 0)) hx hb hts inX1_letterAt_X1 hown hKK.1 hz.1 1 rfl rfl 1 (by decide) (hts _ (List.mem_of_getElem? (i := 1) rfl)) (fun _ h9 => h9) rfl dX1_letterAt_6 ?_
    refine lv_icmp_ge (tgt := 30) hx hb dX1_letterAt_9 (by decide) (fun c2 => ?_) (fun c2 => ?_)
    · replace h := ite_t c2 h
      refine lv_iconst (v := (-1 : Int32)) hx hb dX1_letterAt_30 (by decide) ?_
      exact rt (-1 : Int32) σ 31 _ _ _ dX1_letterAt_31 h hz
    · replace h := ite_f c2 h
      refine lv_iload_n hx hb dX1_letterAt_12 rfl (lv_at hl 1 rfl) ?_
      refine lv_aload_n hx hb dX1_letterAt_13 rfl (lv_at hl 0 rfl) ?_
      refine va_get (v := .ref (a 2)) hx hb hts inX1_letterAt_X1 hown hKK.1 hz.1 1 rfl rfl 0 (by decide) (hts _ (List.mem_of_getElem? (i := 2) rfl)) (fun _ h9 => h9) rfl dX1_letterAt_14 ?_
      refine va_alen (v := (50 : Int32)) hx hb hKK.1 hz.1 2 0 rfl rfl rfl dX1_letterAt_17 ?_
      refine lv_icmp_ge (tgt := 30) hx hb dX1_letterAt_18 (by decide) (fun c3 => ?_) (fun c3 => ?_)
      · replace h := ite_t c3 h
        refine lv_iconst (v := (-1 : Int32)) hx hb dX1_letterAt_30 (by decide) ?_
        exact rt (-1 : Int32) σ 31 _ _ _ dX1_letterAt_31 h hz
      · replace h := ite_f c3 h
        refine lv_aload_n hx hb dX1_letterAt_21 rfl (lv_at hl 0 rfl) ?_
        refine va_get (v := .ref (a 2)) hx hb hts inX1_letterAt_X1 hown hKK.1 hz.1 1 rfl rfl 0 (by decide) (hts _ (List.mem_of_getElem? (i := 2) rfl)) (fun _ h9 => h9) rfl dX1_letterAt_22 ?_
        refine lv_iload_n hx hb dX1_letterAt_25 rfl (lv_at hl 1 rfl) ?_
        obtain ⟨c4, h⟩ := ck_e h
        refine va_iald (f := (σ 2)) hx hb hKK.1 hz.1 2 0 rfl rfl c4 dX1_letterAt_26 ?_
        refine lv_goto (tgt := 31) hx hb dX1_letterAt_27 (by decide) ?_
        exact rt ((σ 2) (Int32.toNatClampNeg x1)) σ 31 _ _ _ dX1_letterAt_31 h hz
def fX4_clear_i_s7 (k7 : St → Int32 → Option (St)) (σ : St) (y1 : Int32) : Option (St) :=
  (if (24 : Int32) ≤ y1 then (some σ) else ((ck (¬ (y1 < 0 ∨ 24 ≤ Int32.toNatClampNeg y1)) <| (ck (¬ (y1 < 0 ∨ 24 ≤ Int32.toNatClampNeg y1)) <| k7 (sa (sa σ 16 (Int32.toNatClampNeg y1) (0 : Int32)) 17 (Int32.toNatClampNeg y1) (0 : Int32)) (y1 + (1 : Int32))))))
def fX4_clear_i_l7  : Nat → St → Int32 → Option (St) :=
  itr (fX4_clear_i_s7 ) (fun _ _ => none)
def fX4_clear_i (σ : St)  : Option (St) :=
  fX4_clear_i_l7  FU (si σ 56 (0 : Int32)) (0 : Int32)
abbrev rmX4_clear_i : Room := { frames := 0, cells := 0, slots := 0, locals := 0 }
set_option maxHeartbeats 4000000 in
set_option maxRecDepth 100000 in
theorem KX4_clear_i {l : Launch} {dC : Nat → ClassId} {dI : Nat → Nat → Nat} {cI cZ : ClassId} {a : Nat → Nat} {σ : St}  {σ2 : St} (hok : okA 30 a) (h : fX4_clear_i σ  = some σ2) (sz : Nat) : Met l yX4_clear wsX4_clear rmX4_clear_i (Pz (dC, dI) cI cZ (wdC cI cZ a σ) sz [.ref (a 12)]) (Qzv (dC, dI) 30 a (wdC cI cZ a σ2) sz) 0 0 (aN 30 a sz) := by
  refine Met.ofW (cc := cX4_clear) (maxL := 2) (ret := none) (by decide) rfl ?_
  intro p e s m args below meth c s₁ B hml hv
  obtain ⟨hav, hsz, hP, hKK⟩ := hv
  have hx := B.exec
  have hb := B.bytes
  have hr := B.returns
  have hts := atoms_spec (ws := wsX4_clear) B.pre
  have hown : s.vm.findClass RX4 = some m.cls := findClass_of_methodNamed B.named
  have hlocks := B.notSynchronized
  have CF : CallFix p m c cX4_clear 2 s args wsX4_clear RX4 := ⟨hx, hb, hml, hown, hts⟩
  have hz : zz (dC, dI) 30 a (wdC cI cZ a σ) s.heap s.heap [] := ⟨hP, va_S.rf⟩
  have hl := lv_entry [.ref (a 12)] (n := 2) (Nat.le_of_ble_eq_true rfl)
  have hen : entryFrame m args 2 = entryFrame m ([.ref (a 12)] : List Value).toArray 2 := by rw [hav]
  rw [hen, lg_entry_eq]
  generalize (lg_sl [.ref (a 12)] ++ List.replicate (2 - (lg_sl [.ref (a 12)]).length) Slot.unset).toArray = ls at hl ⊢
  have hl : lv_has ls 2 [(0, .ref (a 12))] := hl
  have eR : (headSpec wsX4_clear rmX4_clear_i).room = rmX4_clear_i := rfl
  rw [eR]
  have rt : ∀ (t : St) (pc : Nat) (H : Heap) (locs : List Loc) (ls : Array Slot), decode cX4_clear pc = .ok (.return_, 1) → some t = some σ2 → zz (dC, dI) 30 a (wdC cI cZ a t) s.heap H locs → W p l e rmX4_clear_i s m args below meth c H locs 0 0 (MQ below (Qzv (dC, dI) 30 a (wdC cI cZ a σ2) sz) args s 0 0 (aN 30 a sz)) (F0 m pc ls []) := by
    intro t pc H locs ls hd h hz
    cases h
    exact zvret hsz hx hb hr hlocks hz hd
  generalize (MQ below (Qzv (dC, dI) 30 a (wdC cI cZ a σ2) sz) args s 0 0 (aN 30 a sz)) = Q at rt ⊢
  have s7 : ∀ (k7 : St → Int32 → Option (St)) (hk7 : (∀ (σ : St) (y1 : Int32) (H : Heap) (locs : List Loc) (ls : Array Slot), k7 σ y1 = some σ2 → zz (dC, dI) 30 a (wdC cI cZ a σ) s.heap H locs → lv_has ls 2 [(0, .ref (a 12)), (1, .int y1)] → W p l e rmX4_clear_i s m args below meth c H locs 0 0 Q (F0 m 7 ls []))) (σ : St) (y1 : Int32) (H : Heap) (locs : List Loc) (ls : Array Slot), fX4_clear_i_s7 k7 σ y1 = some σ2 → zz (dC, dI) 30 a (wdC cI cZ a σ) s.heap H locs → lv_has ls 2 [(0, .ref (a 12)), (1, .int y1)] → W p l e rmX4_clear_i s m args below meth c H locs 0 0 Q (F0 m 7 ls []) := by
    intro k7 hk7 σ y1 H locs ls h hz hl
    unfold fX4_clear_i_s7 at h
    refine lv_iload_n hx hb dX4_clear_7 rfl (lv_at hl 1 rfl) ?_
    refine lv_bipush (v := (24 : Int32)) hx hb dX4_clear_8 (by decide) ?_
    refine lv_icmp_ge (tgt := 33) hx hb dX4_clear_10 (by decide) (fun c1 => ?_) (fun c1 => ?_)
    · replace h := ite_t c1 h
      exact rt σ 33 _ _ _ dX4_clear_33 h hz
    · replace h := ite_f c1 h
      refine lv_aload_n hx hb dX4_clear_13 rfl (lv_at hl 0 rfl) ?_
      refine va_get (v := .ref (a 16)) hx hb hts inX4_clear_X4 hown hKK.1 hz.1 12 rfl rfl 3 (by decide) (hts _ (List.mem_of_getElem? (i := 2) rfl)) (fun _ h9 => h9) rfl dX4_clear_14 ?_
      refine lv_iload_n hx hb dX4_clear_17 rfl (lv_at hl 1 rfl) ?_
      refine lv_iconst (v := (0 : Int32)) hx hb dX4_clear_18 (by decide) ?_
      obtain ⟨c2, h⟩ := ck_e h
      refine ziast (f := σ 16) (w' := wdC cI cZ a (sa σ 16 (Int32.toNatClampNeg y1) (0 : Int32))) hx hb hKK hok wkC hz 16 rfl c2 setCa_16 dX4_clear_19 (fun H locs hz => ?_)
      refine lv_aload_n hx hb dX4_clear_20 rfl (lv_at hl 0 rfl) ?_
      refine va_get (v := .ref (a 17)) hx hb hts inX4_clear_X4 hown hKK.1 hz.1 12 rfl rfl 4 (by decide) (hts _ (List.mem_of_getElem? (i := 3) rfl)) (fun _ h9 => h9) rfl dX4_clear_21 ?_
      refine lv_iload_n hx hb dX4_clear_24 rfl (lv_at hl 1 rfl) ?_
      refine lv_iconst (v := (0 : Int32)) hx hb dX4_clear_25 (by decide) ?_
      obtain ⟨c3, h⟩ := ck_e h
      refine ziast (f := (sa σ 16 (Int32.toNatClampNeg y1) (0 : Int32)) 17) (w' := wdC cI cZ a (sa (sa σ 16 (Int32.toNatClampNeg y1) (0 : Int32)) 17 (Int32.toNatClampNeg y1) (0 : Int32))) hx hb hKK hok wkC hz 17 rfl c3 setCa_17 dX4_clear_26 (fun H locs hz => ?_)
      refine lv_iinc (v := (y1 + (1 : Int32))) (lv' := [(1, .int (y1 + (1 : Int32))), (0, .ref (a 12))]) hx hb dX4_clear_27 hl (k := 1) rfl rfl (by decide) rfl (fun ls hl => ?_)
      refine lv_goto (tgt := 7) hx hb dX4_clear_30 (by decide) ?_
      exact hk7 (sa (sa σ 16 (Int32.toNatClampNeg y1) (0 : Int32)) 17 (Int32.toNatClampNeg y1) (0 : Int32)) (y1 + (1 : Int32)) _ _ _ h hz (lv_sub hl [1, 0] rfl)
  have l7 : ∀  (n : Nat), ∀ (σ : St) (y1 : Int32) (H : Heap) (locs : List Loc) (ls : Array Slot), fX4_clear_i_l7  n σ y1 = some σ2 → zz (dC, dI) 30 a (wdC cI cZ a σ) s.heap H locs → lv_has ls 2 [(0, .ref (a 12)), (1, .int y1)] → W p l e rmX4_clear_i s m args below meth c H locs 0 0 Q (F0 m 7 ls []) := by
    intro  n
    induction n with
    | zero => intro σ y1 H locs ls h; exact nomatch h
    | succ n ih => exact s7  (fX4_clear_i_l7  n) ih
  unfold fX4_clear_i at h
  refine lv_aload_n hx hb dX4_clear_0 rfl (lv_at hl 0 rfl) ?_
  refine lv_iconst (v := (0 : Int32)) hx hb dX4_clear_1 (by decide) ?_
  refine zput (ty := .int) (w' := wdC cI cZ a (si σ 56 (0 : Int32))) hx hb hts inX4_clear_X4 tyX4 tyX4_ok nmX4 hown hKK hok wkC hz 12 rfl rfl 5 (by decide) (hts _ (List.mem_of_getElem? (i := 1) rfl)) (fun _ h9 => h9) rfl rfl rfl rfl (Nat.le_of_ble_eq_true rfl) setCi_56 dX4_clear_2 (fun H locs hz => ?_)
  refine lv_iconst (v := (0 : Int32)) hx hb dX4_clear_5 (by decide) ?_
  refine lv_istore_n (lv' := [(1, .int (0 : Int32)), (0, .ref (a 12))]) hx hb dX4_clear_6 rfl hl (by decide) rfl (fun ls hl => ?_)
  exact l7  FU (si σ 56 (0 : Int32)) (0 : Int32) _ _ _ h hz (lv_sub hl [1, 0] rfl)
def fX4_clear_c_s7 (k7 : St → Int32 → Option (St)) (σ : St) (y1 : Int32) : Option (St) :=
  (if (24 : Int32) ≤ y1 then (some σ) else ((ck (¬ (y1 < 0 ∨ 24 ≤ Int32.toNatClampNeg y1)) <| (ck (¬ (y1 < 0 ∨ 24 ≤ Int32.toNatClampNeg y1)) <| k7 (sa (sa σ 22 (Int32.toNatClampNeg y1) (0 : Int32)) 23 (Int32.toNatClampNeg y1) (0 : Int32)) (y1 + (1 : Int32))))))
def fX4_clear_c_l7  : Nat → St → Int32 → Option (St) :=
  itr (fX4_clear_c_s7 ) (fun _ _ => none)
def fX4_clear_c (σ : St)  : Option (St) :=
  fX4_clear_c_l7  FU (si σ 57 (0 : Int32)) (0 : Int32)
abbrev rmX4_clear_c : Room := { frames := 0, cells := 0, slots := 0, locals := 0 }
set_option maxHeartbeats 4000000 in
set_option maxRecDepth 100000 in
theorem KX4_clear_c {l : Launch} {dC : Nat → ClassId} {dI : Nat → Nat → Nat} {cI cZ : ClassId} {a : Nat → Nat} {σ : St}  {σ2 : St} (hok : okA 30 a) (h : fX4_clear_c σ  = some σ2) (sz : Nat) : Met l yX4_clear wsX4_clear rmX4_clear_c (Pz (dC, dI) cI cZ (wdC cI cZ a σ) sz [.ref (a 18)]) (Qzv (dC, dI) 30 a (wdC cI cZ a σ2) sz) 0 0 (aN 30 a sz) := by
  refine Met.ofW (cc := cX4_clear) (maxL := 2) (ret := none) (by decide) rfl ?_
  intro p e s m args below meth c s₁ B hml hv
  obtain ⟨hav, hsz, hP, hKK⟩ := hv
  have hx := B.exec
  have hb := B.bytes
  have hr := B.returns
  have hts := atoms_spec (ws := wsX4_clear) B.pre
  have hown : s.vm.findClass RX4 = some m.cls := findClass_of_methodNamed B.named
  have hlocks := B.notSynchronized
  have CF : CallFix p m c cX4_clear 2 s args wsX4_clear RX4 := ⟨hx, hb, hml, hown, hts⟩
  have hz : zz (dC, dI) 30 a (wdC cI cZ a σ) s.heap s.heap [] := ⟨hP, va_S.rf⟩
  have hl := lv_entry [.ref (a 18)] (n := 2) (Nat.le_of_ble_eq_true rfl)
  have hen : entryFrame m args 2 = entryFrame m ([.ref (a 18)] : List Value).toArray 2 := by rw [hav]
  rw [hen, lg_entry_eq]
  generalize (lg_sl [.ref (a 18)] ++ List.replicate (2 - (lg_sl [.ref (a 18)]).length) Slot.unset).toArray = ls at hl ⊢
  have hl : lv_has ls 2 [(0, .ref (a 18))] := hl
  have eR : (headSpec wsX4_clear rmX4_clear_c).room = rmX4_clear_c := rfl
  rw [eR]
  have rt : ∀ (t : St) (pc : Nat) (H : Heap) (locs : List Loc) (ls : Array Slot), decode cX4_clear pc = .ok (.return_, 1) → some t = some σ2 → zz (dC, dI) 30 a (wdC cI cZ a t) s.heap H locs → W p l e rmX4_clear_c s m args below meth c H locs 0 0 (MQ below (Qzv (dC, dI) 30 a (wdC cI cZ a σ2) sz) args s 0 0 (aN 30 a sz)) (F0 m pc ls []) := by
    intro t pc H locs ls hd h hz
    cases h
    exact zvret hsz hx hb hr hlocks hz hd
  generalize (MQ below (Qzv (dC, dI) 30 a (wdC cI cZ a σ2) sz) args s 0 0 (aN 30 a sz)) = Q at rt ⊢
  have s7 : ∀ (k7 : St → Int32 → Option (St)) (hk7 : (∀ (σ : St) (y1 : Int32) (H : Heap) (locs : List Loc) (ls : Array Slot), k7 σ y1 = some σ2 → zz (dC, dI) 30 a (wdC cI cZ a σ) s.heap H locs → lv_has ls 2 [(0, .ref (a 18)), (1, .int y1)] → W p l e rmX4_clear_c s m args below meth c H locs 0 0 Q (F0 m 7 ls []))) (σ : St) (y1 : Int32) (H : Heap) (locs : List Loc) (ls : Array Slot), fX4_clear_c_s7 k7 σ y1 = some σ2 → zz (dC, dI) 30 a (wdC cI cZ a σ) s.heap H locs → lv_has ls 2 [(0, .ref (a 18)), (1, .int y1)] → W p l e rmX4_clear_c s m args below meth c H locs 0 0 Q (F0 m 7 ls []) := by
    intro k7 hk7 σ y1 H locs ls h hz hl
    unfold fX4_clear_c_s7 at h
    refine lv_iload_n hx hb dX4_clear_7 rfl (lv_at hl 1 rfl) ?_
    refine lv_bipush (v := (24 : Int32)) hx hb dX4_clear_8 (by decide) ?_
    refine lv_icmp_ge (tgt := 33) hx hb dX4_clear_10 (by decide) (fun c1 => ?_) (fun c1 => ?_)
    · replace h := ite_t c1 h
      exact rt σ 33 _ _ _ dX4_clear_33 h hz
    · replace h := ite_f c1 h
      refine lv_aload_n hx hb dX4_clear_13 rfl (lv_at hl 0 rfl) ?_
      refine va_get (v := .ref (a 22)) hx hb hts inX4_clear_X4 hown hKK.1 hz.1 18 rfl rfl 3 (by decide) (hts _ (List.mem_of_getElem? (i := 2) rfl)) (fun _ h9 => h9) rfl dX4_clear_14 ?_
      refine lv_iload_n hx hb dX4_clear_17 rfl (lv_at hl 1 rfl) ?_
      refine lv_iconst (v := (0 : Int32)) hx hb dX4_clear_18 (by decide) ?_
      obtain ⟨c2, h⟩ := ck_e h
      refine ziast (f := σ 22) (w' := wdC cI cZ a (sa σ 22 (Int32.toNatClampNeg y1) (0 : Int32))) hx hb hKK hok wkC hz 22 rfl c2 setCa_22 dX4_clear_19 (fun H locs hz => ?_)
      refine lv_aload_n hx hb dX4_clear_20 rfl (lv_at hl 0 rfl) ?_
      refine va_get (v := .ref (a 23)) hx hb hts inX4_clear_X4 hown hKK.1 hz.1 18 rfl rfl 4 (by decide) (hts _ (List.mem_of_getElem? (i := 3) rfl)) (fun _ h9 => h9) rfl dX4_clear_21 ?_
      refine lv_iload_n hx hb dX4_clear_24 rfl (lv_at hl 1 rfl) ?_
      refine lv_iconst (v := (0 : Int32)) hx hb dX4_clear_25 (by decide) ?_
      obtain ⟨c3, h⟩ := ck_e h
      refine ziast (f := (sa σ 22 (Int32.toNatClampNeg y1) (0 : Int32)) 23) (w' := wdC cI cZ a (sa (sa σ 22 (Int32.toNatClampNeg y1) (0 : Int32)) 23 (Int32.toNatClampNeg y1) (0 : Int32))) hx hb hKK hok wkC hz 23 rfl c3 setCa_23 dX4_clear_26 (fun H locs hz => ?_)
      refine lv_iinc (v := (y1 + (1 : Int32))) (lv' := [(1, .int (y1 + (1 : Int32))), (0, .ref (a 18))]) hx hb dX4_clear_27 hl (k := 1) rfl rfl (by decide) rfl (fun ls hl => ?_)
      refine lv_goto (tgt := 7) hx hb dX4_clear_30 (by decide) ?_
      exact hk7 (sa (sa σ 22 (Int32.toNatClampNeg y1) (0 : Int32)) 23 (Int32.toNatClampNeg y1) (0 : Int32)) (y1 + (1 : Int32)) _ _ _ h hz (lv_sub hl [1, 0] rfl)
  have l7 : ∀  (n : Nat), ∀ (σ : St) (y1 : Int32) (H : Heap) (locs : List Loc) (ls : Array Slot), fX4_clear_c_l7  n σ y1 = some σ2 → zz (dC, dI) 30 a (wdC cI cZ a σ) s.heap H locs → lv_has ls 2 [(0, .ref (a 18)), (1, .int y1)] → W p l e rmX4_clear_c s m args below meth c H locs 0 0 Q (F0 m 7 ls []) := by
    intro  n
    induction n with
    | zero => intro σ y1 H locs ls h; exact nomatch h
    | succ n ih => exact s7  (fX4_clear_c_l7  n) ih
  unfold fX4_clear_c at h
  refine lv_aload_n hx hb dX4_clear_0 rfl (lv_at hl 0 rfl) ?_
  refine lv_iconst (v := (0 : Int32)) hx hb dX4_clear_1 (by decide) ?_
  refine zput (ty := .int) (w' := wdC cI cZ a (si σ 57 (0 : Int32))) hx hb hts inX4_clear_X4 tyX4 tyX4_ok nmX4 hown hKK hok wkC hz 18 rfl rfl 5 (by decide) (hts _ (List.mem_of_getElem? (i := 1) rfl)) (fun _ h9 => h9) rfl rfl rfl rfl (Nat.le_of_ble_eq_true rfl) setCi_57 dX4_clear_2 (fun H locs hz => ?_)
  refine lv_iconst (v := (0 : Int32)) hx hb dX4_clear_5 (by decide) ?_
  refine lv_istore_n (lv' := [(1, .int (0 : Int32)), (0, .ref (a 18))]) hx hb dX4_clear_6 rfl hl (by decide) rfl (fun ls hl => ?_)
  exact l7  FU (si σ 57 (0 : Int32)) (0 : Int32) _ _ _ h hz (lv_sub hl [1, 0] rfl)
def fX2_clear_s16 (k16 : St → Int32 → Option (St)) (σ : St) (y1 : Int32) : Option (St) :=
  (if (24 : Int32) ≤ y1 then (some (si (si (si (si (si (si σ 50 (0 : Int32)) 51 (0 : Int32)) 52 (0 : Int32)) 53 (0 : Int32)) 54 (0 : Int32)) 55 (-1 : Int32))) else ((ck (¬ (y1 < 0 ∨ 24 ≤ Int32.toNatClampNeg y1)) <| k16 (sa σ 24 (Int32.toNatClampNeg y1) (0 : Int32)) (y1 + (1 : Int32)))))
def fX2_clear_l16  : Nat → St → Int32 → Option (St) :=
  itr (fX2_clear_s16 ) (fun _ _ => none)
def fX2_clear (σ : St)  : Option (St) :=
  (bd1 (fX4_clear_i σ ) fun s2 => (bd1 (fX4_clear_c s2 ) fun s5 => fX2_clear_l16  FU s5 (0 : Int32)))
abbrev rmX2_clear : Room := { frames := 1, cells := 0, slots := 0, locals := 21 }
set_option maxHeartbeats 4000000 in
set_option maxRecDepth 100000 in
theorem KX2_clear {l : Launch} {dC : Nat → ClassId} {dI : Nat → Nat → Nat} {cI cZ : ClassId} {a : Nat → Nat} {σ : St}  {σ2 : St} (hok : okA 30 a) (h : fX2_clear σ  = some σ2) (sz : Nat) : Met l yX2_clear wsX2_clear rmX2_clear (Pz (dC, dI) cI cZ (wdC cI cZ a σ) sz [.ref (a 11)]) (Qzv (dC, dI) 30 a (wdC cI cZ a σ2) sz) 0 0 (aN 30 a sz) := by
  refine Met.ofW (cc := cX2_clear) (maxL := 2) (ret := none) (by decide) rfl ?_
  intro p e s m args below meth c s₁ B hml hv
  obtain ⟨hav, hsz, hP, hKK⟩ := hv
  have hx := B.exec
  have hb := B.bytes
  have hr := B.returns
  have hts := atoms_spec (ws := wsX2_clear) B.pre
  have hown : s.vm.findClass RX2 = some m.cls := findClass_of_methodNamed B.named
  have hlocks := B.notSynchronized
  have CF : CallFix p m c cX2_clear 2 s args wsX2_clear RX2 := ⟨hx, hb, hml, hown, hts⟩
  have hz : zz (dC, dI) 30 a (wdC cI cZ a σ) s.heap s.heap [] := ⟨hP, va_S.rf⟩
  have hl := lv_entry [.ref (a 11)] (n := 2) (Nat.le_of_ble_eq_true rfl)
  have hen : entryFrame m args 2 = entryFrame m ([.ref (a 11)] : List Value).toArray 2 := by rw [hav]
  rw [hen, lg_entry_eq]
  generalize (lg_sl [.ref (a 11)] ++ List.replicate (2 - (lg_sl [.ref (a 11)]).length) Slot.unset).toArray = ls at hl ⊢
  have hl : lv_has ls 2 [(0, .ref (a 11))] := hl
  have eR : (headSpec wsX2_clear rmX2_clear).room = rmX2_clear := rfl
  rw [eR]
  have rt : ∀ (t : St) (pc : Nat) (H : Heap) (locs : List Loc) (ls : Array Slot), decode cX2_clear pc = .ok (.return_, 1) → some t = some σ2 → zz (dC, dI) 30 a (wdC cI cZ a t) s.heap H locs → W p l e rmX2_clear s m args below meth c H locs 0 0 (MQ below (Qzv (dC, dI) 30 a (wdC cI cZ a σ2) sz) args s 0 0 (aN 30 a sz)) (F0 m pc ls []) := by
    intro t pc H locs ls hd h hz
    cases h
    exact zvret hsz hx hb hr hlocks hz hd
  generalize (MQ below (Qzv (dC, dI) 30 a (wdC cI cZ a σ2) sz) args s 0 0 (aN 30 a sz)) = Q at rt ⊢
  have s16 : ∀ (k16 : St → Int32 → Option (St)) (hk16 : (∀ (σ : St) (y1 : Int32) (H : Heap) (locs : List Loc) (ls : Array Slot), k16 σ y1 = some σ2 → zz (dC, dI) 30 a (wdC cI cZ a σ) s.heap H locs → lv_has ls 2 [(0, .ref (a 11)), (1, .int y1)] → W p l e rmX2_clear s m args below meth c H locs 0 0 Q (F0 m 16 ls []))) (σ : St) (y1 : Int32) (H : Heap) (locs : List Loc) (ls : Array Slot), fX2_clear_s16 k16 σ y1 = some σ2 → zz (dC, dI) 30 a (wdC cI cZ a σ) s.heap H locs → lv_has ls 2 [(0, .ref (a 11)), (1, .int y1)] → W p l e rmX2_clear s m args below meth c H locs 0 0 Q (F0 m 16 ls []) := by
    intro k16 hk16 σ y1 H locs ls h hz hl
    unfold fX2_clear_s16 at h
    refine lv_iload_n hx hb dX2_clear_16 rfl (lv_at hl 1 rfl) ?_
    refine lv_bipush (v := (24 : Int32)) hx hb dX2_clear_17 (by decide) ?_
    refine lv_icmp_ge (tgt := 35) hx hb dX2_clear_19 (by decide) (fun c7 => ?_) (fun c7 => ?_)
    · replace h := ite_t c7 h
      refine lv_aload_n hx hb dX2_clear_35 rfl (lv_at hl 0 rfl) ?_
      refine lv_iconst (v := (0 : Int32)) hx hb dX2_clear_36 (by decide) ?_
      refine zput (ty := .int) (w' := wdC cI cZ a (si σ 50 (0 : Int32))) hx hb hts inX2_clear_X2 tyX2 tyX2_ok nmX2 hown hKK hok wkC hz 11 rfl rfl 10 (by decide) (hts _ (List.mem_of_getElem? (i := 4) rfl)) (fun _ h9 => h9) rfl rfl rfl rfl (Nat.le_of_ble_eq_true rfl) setCi_50 dX2_clear_37 (fun H locs hz => ?_)
      refine lv_aload_n hx hb dX2_clear_40 rfl (lv_at hl 0 rfl) ?_
      refine lv_iconst (v := (0 : Int32)) hx hb dX2_clear_41 (by decide) ?_
      refine zput (ty := .int) (w' := wdC cI cZ a (si (si σ 50 (0 : Int32)) 51 (0 : Int32))) hx hb hts inX2_clear_X2 tyX2 tyX2_ok nmX2 hown hKK hok wkC hz 11 rfl rfl 11 (by decide) (hts _ (List.mem_of_getElem? (i := 5) rfl)) (fun _ h9 => h9) rfl rfl rfl rfl (Nat.le_of_ble_eq_true rfl) setCi_51 dX2_clear_42 (fun H locs hz => ?_)
      refine lv_aload_n hx hb dX2_clear_45 rfl (lv_at hl 0 rfl) ?_
      refine lv_iconst (v := (0 : Int32)) hx hb dX2_clear_46 (by decide) ?_
      refine zput (ty := .int) (w' := wdC cI cZ a (si (si (si σ 50 (0 : Int32)) 51 (0 : Int32)) 52 (0 : Int32))) hx hb hts inX2_clear_X2 tyX2 tyX2_ok nmX2 hown hKK hok wkC hz 11 rfl rfl 12 (by decide) (hts _ (List.mem_of_getElem? (i := 6) rfl)) (fun _ h9 => h9) rfl rfl rfl rfl (Nat.le_of_ble_eq_true rfl) setCi_52 dX2_clear_47 (fun H locs hz => ?_)
      refine lv_aload_n hx hb dX2_clear_50 rfl (lv_at hl 0 rfl) ?_
      refine lv_iconst (v := (0 : Int32)) hx hb dX2_clear_51 (by decide) ?_
      refine zput (ty := .int) (w' := wdC cI cZ a (si (si (si (si σ 50 (0 : Int32)) 51 (0 : Int32)) 52 (0 : Int32)) 53 (0 : Int32))) hx hb hts inX2_clear_X2 tyX2 tyX2_ok nmX2 hown hKK hok wkC hz 11 rfl rfl 13 (by decide) (hts _ (List.mem_of_getElem? (i := 7) rfl)) (fun _ h9 => h9) rfl rfl rfl rfl (Nat.le_of_ble_eq_true rfl) setCi_53 dX2_clear_52 (fun H locs hz => ?_)
      refine lv_aload_n hx hb dX2_clear_55 rfl (lv_at hl 0 rfl) ?_
      refine lv_iconst (v := (0 : Int32)) hx hb dX2_clear_56 (by decide) ?_
      refine zput (ty := .int) (w' := wdC cI cZ a (si (si (si (si (si σ 50 (0 : Int32)) 51 (0 : Int32)) 52 (0 : Int32)) 53 (0 : Int32)) 54 (0 : Int32))) hx hb hts inX2_clear_X2 tyX2 tyX2_ok nmX2 hown hKK hok wkC hz 11 rfl rfl 14 (by decide) (hts _ (List.mem_of_getElem? (i := 8) rfl)) (fun _ h9 => h9) rfl rfl rfl rfl (Nat.le_of_ble_eq_true rfl) setCi_54 dX2_clear_57 (fun H locs hz => ?_)
      refine lv_aload_n hx hb dX2_clear_60 rfl (lv_at hl 0 rfl) ?_
      refine lv_iconst (v := (-1 : Int32)) hx hb dX2_clear_61 (by decide) ?_
      refine zput (ty := .int) (w' := wdC cI cZ a (si (si (si (si (si (si σ 50 (0 : Int32)) 51 (0 : Int32)) 52 (0 : Int32)) 53 (0 : Int32)) 54 (0 : Int32)) 55 (-1 : Int32))) hx hb hts inX2_clear_X2 tyX2 tyX2_ok nmX2 hown hKK hok wkC hz 11 rfl rfl 15 (by decide) (hts _ (List.mem_of_getElem? (i := 9) rfl)) (fun _ h9 => h9) rfl rfl rfl rfl (Nat.le_of_ble_eq_true rfl) setCi_55 dX2_clear_62 (fun H locs hz => ?_)
      exact rt (si (si (si (si (si (si σ 50 (0 : Int32)) 51 (0 : Int32)) 52 (0 : Int32)) 53 (0 : Int32)) 54 (0 : Int32)) 55 (-1 : Int32)) 65 _ _ _ dX2_clear_65 h hz
    · replace h := ite_f c7 h
      refine lv_aload_n hx hb dX2_clear_22 rfl (lv_at hl 0 rfl) ?_
      refine va_get (v := .ref (a 24)) hx hb hts inX2_clear_X2 hown hKK.1 hz.1 11 rfl rfl 4 (by decide) (hts _ (List.mem_of_getElem? (i := 3) rfl)) (fun _ h9 => h9) rfl dX2_clear_23 ?_
      refine lv_iload_n hx hb dX2_clear_26 rfl (lv_at hl 1 rfl) ?_
      refine lv_iconst (v := (0 : Int32)) hx hb dX2_clear_27 (by decide) ?_
      obtain ⟨c8, h⟩ := ck_e h
      refine zzast (f := σ 24) (w' := wdC cI cZ a (sa σ 24 (Int32.toNatClampNeg y1) (0 : Int32))) hx hb hKK hok wkC hz 24 rfl c8 (x' := (0 : Int32)) (by decide) setCa_24 dX2_clear_28 (fun H locs hz => ?_)
      refine lv_iinc (v := (y1 + (1 : Int32))) (lv' := [(1, .int (y1 + (1 : Int32))), (0, .ref (a 11))]) hx hb dX2_clear_29 hl (k := 1) rfl rfl (by decide) rfl (fun ls hl => ?_)
      refine lv_goto (tgt := 16) hx hb dX2_clear_32 (by decide) ?_
      exact hk16 (sa σ 24 (Int32.toNatClampNeg y1) (0 : Int32)) (y1 + (1 : Int32)) _ _ _ h hz (lv_sub hl [1, 0] rfl)
  have l16 : ∀  (n : Nat), ∀ (σ : St) (y1 : Int32) (H : Heap) (locs : List Loc) (ls : Array Slot), fX2_clear_l16  n σ y1 = some σ2 → zz (dC, dI) 30 a (wdC cI cZ a σ) s.heap H locs → lv_has ls 2 [(0, .ref (a 11)), (1, .int y1)] → W p l e rmX2_clear s m args below meth c H locs 0 0 Q (F0 m 16 ls []) := by
    intro  n
    induction n with
    | zero => intro σ y1 H locs ls h; exact nomatch h
    | succ n ih => exact s16  (fX2_clear_l16  n) ih
  unfold fX2_clear at h
  refine lv_aload_n hx hb dX2_clear_0 rfl (lv_at hl 0 rfl) ?_
  refine va_get (v := .ref (a 12)) hx hb hts inX2_clear_X2 hown hKK.1 hz.1 11 rfl rfl 2 (by decide) (hts _ (List.mem_of_getElem? (i := 1) rfl)) (fun _ h9 => h9) rfl dX2_clear_1 ?_
  obtain ⟨s2, e3, h⟩ := bd1_e h
  refine zcallVv (As := []) (rest := []) CF hKK (KX4_clear_i (dC := dC) (dI := dI) (cI := cI) (cZ := cZ) (a := a) hok e3) (cwV 0 hts gX2_clear_X4_clear rfl rfl rfl cdX4_clear ⟨Nat.le_of_ble_eq_true rfl, Nat.le_of_ble_eq_true rfl⟩) 12 4 rfl rfl hz rfl hl.1 rfl (Nat.le_of_ble_eq_true rfl) dX2_clear_4 ⟨Nat.le_refl _, Nat.le_refl _⟩ (fun H locs hz => ?_)
  refine lv_aload_n hx hb dX2_clear_7 rfl (lv_at hl 0 rfl) ?_
  refine va_get (v := .ref (a 18)) hx hb hts inX2_clear_X2 hown hKK.1 hz.1 11 rfl rfl 3 (by decide) (hts _ (List.mem_of_getElem? (i := 2) rfl)) (fun _ h9 => h9) rfl dX2_clear_8 ?_
  obtain ⟨s5, e6, h⟩ := bd1_e h
  refine zcallVv (As := []) (rest := []) CF hKK (KX4_clear_c (dC := dC) (dI := dI) (cI := cI) (cZ := cZ) (a := a) hok e6) (cwV 0 hts gX2_clear_X4_clear rfl rfl rfl cdX4_clear ⟨Nat.le_of_ble_eq_true rfl, Nat.le_of_ble_eq_true rfl⟩) 18 4 rfl rfl hz rfl hl.1 rfl (Nat.le_of_ble_eq_true rfl) dX2_clear_11 ⟨Nat.le_refl _, Nat.le_refl _⟩ (fun H locs hz => ?_)
  refine lv_iconst (v := (0 : Int32)) hx hb dX2_clear_14 (by decide) ?_
  refine lv_istore_n (lv' := [(1, .int (0 : Int32)), (0, .ref (a 11))]) hx hb dX2_clear_15 rfl hl (by decide) rfl (fun ls hl => ?_)
  exact l16  FU s5 (0 : Int32) _ _ _ h hz (lv_sub hl [1, 0] rfl)
def fX2_isLong (σ : St) (x1 : Int32) : Option (Int32) :=
  (if x1 < 0 then (some (0 : Int32)) else ((if (24 : Int32) ≤ x1 then (some (0 : Int32)) else ((ck (¬ (x1 < 0 ∨ 24 ≤ Int32.toNatClampNeg x1)) <| (if ((σ 24) (Int32.toNatClampNeg x1)) = 0 then (some (0 : Int32)) else (some (1 : Int32))))))))
abbrev rmX2_isLong : Room := { frames := 0, cells := 0, slots := 0, locals := 0 }
set_option maxHeartbeats 4000000 in
set_option maxRecDepth 100000 in
theorem KX2_isLong {l : Launch} {dC : Nat → ClassId} {dI : Nat → Nat → Nat} {cI cZ : ClassId} {a : Nat → Nat} {σ : St} {x1 : Int32} {r : Int32} (hok : okA 30 a) (h : fX2_isLong σ x1 = some r) (sz : Nat) : Met l yX2_isLong wsX2_isLong rmX2_isLong (Pz (dC, dI) cI cZ (wdC cI cZ a σ) sz [.ref (a 11), .int x1]) (Qzi (dC, dI) 30 a (wdC cI cZ a σ) sz r) 0 0 (aN 30 a sz) := by
  refine Met.ofW (cc := cX2_isLong) (maxL := 2) (ret := (some .boolean)) (by decide) rfl ?_
  intro p e s m args below meth c s₁ B hml hv
  obtain ⟨hav, hsz, hP, hKK⟩ := hv
  have hx := B.exec
  have hb := B.bytes
  have hr := B.returns
  have hts := atoms_spec (ws := wsX2_isLong) B.pre
  have hown : s.vm.findClass RX2 = some m.cls := findClass_of_methodNamed B.named
  have hlocks := B.notSynchronized
  have CF : CallFix p m c cX2_isLong 2 s args wsX2_isLong RX2 := ⟨hx, hb, hml, hown, hts⟩
  have hz : zz (dC, dI) 30 a (wdC cI cZ a σ) s.heap s.heap [] := ⟨hP, va_S.rf⟩
  have hl := lv_entry [.ref (a 11), .int x1] (n := 2) (Nat.le_of_ble_eq_true rfl)
  have hen : entryFrame m args 2 = entryFrame m ([.ref (a 11), .int x1] : List Value).toArray 2 := by rw [hav]
  rw [hen, lg_entry_eq]
  generalize (lg_sl [.ref (a 11), .int x1] ++ List.replicate (2 - (lg_sl [.ref (a 11), .int x1]).length) Slot.unset).toArray = ls at hl ⊢
  have hl : lv_has ls 2 [(0, .ref (a 11)), (1, .int x1)] := hl
  have eR : (headSpec wsX2_isLong rmX2_isLong).room = rmX2_isLong := rfl
  rw [eR]
  have rt : ∀ (v : Int32) (t : St) (pc : Nat) (H : Heap) (locs : List Loc) (ls : Array Slot), decode cX2_isLong pc = .ok (.ireturn, 1) → some v = some r → zz (dC, dI) 30 a (wdC cI cZ a σ) s.heap H locs → (v = 0 ∨ v = 1) → W p l e rmX2_isLong s m args below meth c H locs 0 0 (MQ below (Qzi (dC, dI) 30 a (wdC cI cZ a σ) sz r) args s 0 0 (aN 30 a sz)) (F0 m pc ls [.int v]) := by
    intro v t pc H locs ls hd h hz hv
    cases h
    exact zzret hsz hx hb hr hlocks hv hz hd
  generalize (MQ below (Qzi (dC, dI) 30 a (wdC cI cZ a σ) sz r) args s 0 0 (aN 30 a sz)) = Q at rt ⊢
  unfold fX2_isLong at h
  refine lv_iload_n hx hb dX2_isLong_0 rfl (lv_at hl 1 rfl) ?_
  refine lv_if_lt (tgt := 26) hx hb dX2_isLong_1 (by decide) (fun c1 => ?_) (fun c1 => ?_)
  · replace h := ite_t c1 h
    refine lv_iconst (v := (0 : Int32)) hx hb dX2_isLong_26 (by decide) ?_
    exact rt (0 : Int32) σ 27 _ _ _ dX2_isLong_27 h hz (Or.inl rfl)
  · replace h := ite_f c1 h
    refine lv_iload_n hx hb dX2_isLong_4 rfl (lv_at hl 1 rfl) ?_
    refine lv_aload_n hx hb dX2_isLong_5 rfl (lv_at hl 0 rfl) ?_
    refine va_get (v := .ref (a 24)) hx hb hts inX2_isLong_X2 hown hKK.1 hz.1 11 rfl rfl 4 (by decide) (hts _ (List.mem_of_getElem? (i := 1) rfl)) (fun _ h9 => h9) rfl dX2_isLong_6 ?_
    refine va_alen (v := (24 : Int32)) hx hb hKK.1 hz.1 24 1 rfl rfl rfl dX2_isLong_9 ?_
    refine lv_icmp_ge (tgt := 26) hx hb dX2_isLong_10 (by decide) (fun c2 => ?_) (fun c2 => ?_)
    · replace h := ite_t c2 h
      refine lv_iconst (v := (0 : Int32)) hx hb dX2_isLong_26 (by decide) ?_
      exact rt (0 : Int32) σ 27 _ _ _ dX2_isLong_27 h hz (Or.inl rfl)
    · replace h := ite_f c2 h
      refine lv_aload_n hx hb dX2_isLong_13 rfl (lv_at hl 0 rfl) ?_
      refine va_get (v := .ref (a 24)) hx hb hts inX2_isLong_X2 hown hKK.1 hz.1 11 rfl rfl 4 (by decide) (hts _ (List.mem_of_getElem? (i := 1) rfl)) (fun _ h9 => h9) rfl dX2_isLong_14 ?_
      refine lv_iload_n hx hb dX2_isLong_17 rfl (lv_at hl 1 rfl) ?_
      obtain ⟨c3, h⟩ := ck_e h
      refine va_zald (f := (σ 24)) hx hb hKK.1 hz.1 24 1 rfl rfl c3 dX2_isLong_18 ?_
      refine lv_if_eq (tgt := 26) hx hb dX2_isLong_19 (by decide) (fun c4 => ?_) (fun c4 => ?_)
      · replace h := ite_t c4 h
        refine lv_iconst (v := (0 : Int32)) hx hb dX2_isLong_26 (by decide) ?_
        exact rt (0 : Int32) σ 27 _ _ _ dX2_isLong_27 h hz (Or.inl rfl)
      · replace h := ite_f c4 h
        refine lv_iconst (v := (1 : Int32)) hx hb dX2_isLong_22 (by decide) ?_
        refine lv_goto (tgt := 27) hx hb dX2_isLong_23 (by decide) ?_
        exact rt (1 : Int32) σ 27 _ _ _ dX2_isLong_27 h hz (Or.inr rfl)
def fX5_fillTo (σ : St) (x1 : Int32) (x2 : Int32) : Option (Int32) :=
  some ((-x2) &&& (x1 - (1 : Int32)))
abbrev rmX5_fillTo : Room := { frames := 0, cells := 0, slots := 0, locals := 0 }
set_option maxHeartbeats 4000000 in
set_option maxRecDepth 100000 in
theorem KX5_fillTo {l : Launch} {dC : Nat → ClassId} {dI : Nat → Nat → Nat} {cI cZ : ClassId} {a : Nat → Nat} {σ : St} {x1 : Int32} {x2 : Int32} {r : Int32} (hok : okA 30 a) (h : fX5_fillTo σ x1 x2 = some r) (sz : Nat) : Met l yX5_fillTo wsX5_fillTo rmX5_fillTo (Pz (dC, dI) cI cZ (wdC cI cZ a σ) sz [.int x1, .int x2]) (Qzi (dC, dI) 30 a (wdC cI cZ a σ) sz r) 0 0 (aN 30 a sz) := by
  refine Met.ofW (cc := cX5_fillTo) (maxL := 2) (ret := (some .int)) (by decide) rfl ?_
  intro p e s m args below meth c s₁ B hml hv
  obtain ⟨hav, hsz, hP, hKK⟩ := hv
  have hx := B.exec
  have hb := B.bytes
  have hr := B.returns
  have hts := atoms_spec (ws := wsX5_fillTo) B.pre
  have hown : s.vm.findClass RX5 = some m.cls := findClass_of_methodNamed B.named
  have hlocks := B.notSynchronized
  have CF : CallFix p m c cX5_fillTo 2 s args wsX5_fillTo RX5 := ⟨hx, hb, hml, hown, hts⟩
  have hz : zz (dC, dI) 30 a (wdC cI cZ a σ) s.heap s.heap [] := ⟨hP, va_S.rf⟩
  have hl := lv_entry [.int x1, .int x2] (n := 2) (Nat.le_of_ble_eq_true rfl)
  have hen : entryFrame m args 2 = entryFrame m ([.int x1, .int x2] : List Value).toArray 2 := by rw [hav]
  rw [hen, lg_entry_eq]
  generalize (lg_sl [.int x1, .int x2] ++ List.replicate (2 - (lg_sl [.int x1, .int x2]).length) Slot.unset).toArray = ls at hl ⊢
  have hl : lv_has ls 2 [(0, .int x1), (1, .int x2)] := hl
  have eR : (headSpec wsX5_fillTo rmX5_fillTo).room = rmX5_fillTo := rfl
  rw [eR]
  have rt : ∀ (v : Int32) (t : St) (pc : Nat) (H : Heap) (locs : List Loc) (ls : Array Slot), decode cX5_fillTo pc = .ok (.ireturn, 1) → some v = some r → zz (dC, dI) 30 a (wdC cI cZ a σ) s.heap H locs → W p l e rmX5_fillTo s m args below meth c H locs 0 0 (MQ below (Qzi (dC, dI) 30 a (wdC cI cZ a σ) sz r) args s 0 0 (aN 30 a sz)) (F0 m pc ls [.int v]) := by
    intro v t pc H locs ls hd h hz
    cases h
    exact ziret hsz hx hb hr hlocks hz hd
  generalize (MQ below (Qzi (dC, dI) 30 a (wdC cI cZ a σ) sz r) args s 0 0 (aN 30 a sz)) = Q at rt ⊢
  unfold fX5_fillTo at h
  refine lv_iload_n hx hb dX5_fillTo_0 rfl (lv_at hl 1 rfl) ?_
  refine lv_ineg hx hb dX5_fillTo_1 ?_
  refine lv_iload_n hx hb dX5_fillTo_2 rfl (lv_at hl 0 rfl) ?_
  refine lv_iconst (v := (1 : Int32)) hx hb dX5_fillTo_3 (by decide) ?_
  refine lv_isub hx hb dX5_fillTo_4 ?_
  refine lv_iand hx hb dX5_fillTo_5 ?_
  exact rt ((-x2) &&& (x1 - (1 : Int32))) σ 6 _ _ _ dX5_fillTo_6 h hz
def fX2_sizeAt (σ : St) (x1 : Int32) (x2 : Int32) : Option (Int32) :=
  (bd1 (fX0_kindOf_p σ x1) fun r1 => (if r1 = (0 : Int32) then ((bd1 (fX0_toldOf_p σ x1) fun r5 => some r5)) else (if r1 = (1 : Int32) then (some (2 : Int32)) else (if r1 = (2 : Int32) then ((bd1 (fX2_isLong σ x1) fun r10 => (if r10 = 0 then (some (2 : Int32)) else (some (4 : Int32))))) else (if r1 = (4 : Int32) then ((bd1 (fX0_toldOf_p σ x1) fun r15 => (bd1 (fX5_fillTo σ r15 x2) fun r18 => some r18))) else (if r1 = (5 : Int32) then (some (2 : Int32)) else some (0 : Int32)))))))
abbrev rmX2_sizeAt : Room := { frames := 2, cells := 0, slots := 0, locals := 42 }
set_option maxHeartbeats 4000000 in
set_option maxRecDepth 100000 in
theorem KX2_sizeAt {l : Launch} {dC : Nat → ClassId} {dI : Nat → Nat → Nat} {cI cZ : ClassId} {a : Nat → Nat} {σ : St} {x1 : Int32} {x2 : Int32} {r : Int32} (hok : okA 30 a) (h : fX2_sizeAt σ x1 x2 = some r) (sz : Nat) : Met l yX2_sizeAt wsX2_sizeAt rmX2_sizeAt (Pz (dC, dI) cI cZ (wdC cI cZ a σ) sz [.ref (a 11), .int x1, .int x2]) (Qzi (dC, dI) 30 a (wdC cI cZ a σ) sz r) 0 0 (aN 30 a sz) := by
  refine Met.ofW (cc := cX2_sizeAt) (maxL := 3) (ret := (some .int)) (by decide) rfl ?_
  intro p e s m args below meth c s₁ B hml hv
  obtain ⟨hav, hsz, hP, hKK⟩ := hv
  have hx := B.exec
  have hb := B.bytes
  have hr := B.returns
  have hts := atoms_spec (ws := wsX2_sizeAt) B.pre
  have hown : s.vm.findClass RX2 = some m.cls := findClass_of_methodNamed B.named
  have hlocks := B.notSynchronized
  have CF : CallFix p m c cX2_sizeAt 3 s args wsX2_sizeAt RX2 := ⟨hx, hb, hml, hown, hts⟩
  have hz : zz (dC, dI) 30 a (wdC cI cZ a σ) s.heap s.heap [] := ⟨hP, va_S.rf⟩
  have hl := lv_entry [.ref (a 11), .int x1, .int x2] (n := 3) (Nat.le_of_ble_eq_true rfl)
  have hen : entryFrame m args 3 = entryFrame m ([.ref (a 11), .int x1, .int x2] : List Value).toArray 3 := by rw [hav]
  rw [hen, lg_entry_eq]
  generalize (lg_sl [.ref (a 11), .int x1, .int x2] ++ List.replicate (3 - (lg_sl [.ref (a 11), .int x1, .int x2]).length) Slot.unset).toArray = ls at hl ⊢
  have hl : lv_has ls 3 [(0, .ref (a 11)), (1, .int x1), (2, .int x2)] := hl
  have eR : (headSpec wsX2_sizeAt rmX2_sizeAt).room = rmX2_sizeAt := rfl
  rw [eR]
  have rt : ∀ (v : Int32) (t : St) (pc : Nat) (H : Heap) (locs : List Loc) (ls : Array Slot), decode cX2_sizeAt pc = .ok (.ireturn, 1) → some v = some r → zz (dC, dI) 30 a (wdC cI cZ a σ) s.heap H locs → W p l e rmX2_sizeAt s m args below meth c H locs 0 0 (MQ below (Qzi (dC, dI) 30 a (wdC cI cZ a σ) sz r) args s 0 0 (aN 30 a sz)) (F0 m pc ls [.int v]) := by
    intro v t pc H locs ls hd h hz
    cases h
    exact ziret hsz hx hb hr hlocks hz hd
  generalize (MQ below (Qzi (dC, dI) 30 a (wdC cI cZ a σ) sz r) args s 0 0 (aN 30 a sz)) = Q at rt ⊢
  unfold fX2_sizeAt at h
  refine lv_aload_n hx hb dX2_sizeAt_0 rfl (lv_at hl 0 rfl) ?_
  refine va_get (v := .ref (a 7)) hx hb hts inX2_sizeAt_X2 hown hKK.1 hz.1 11 rfl rfl 0 (by decide) (hts _ (List.mem_of_getElem? (i := 1) rfl)) (fun _ h9 => h9) rfl dX2_sizeAt_1 ?_
  refine lv_iload_n hx hb dX2_sizeAt_4 rfl (lv_at hl 1 rfl) ?_
  obtain ⟨r1, e3, h⟩ := bd1_e h
  refine zcallVi (As := [.int x1]) (rest := []) CF hKK (KX0_kindOf_p (dC := dC) (dI := dI) (cI := cI) (cZ := cZ) (a := a) hok e3) (cwV 1 hts gX2_sizeAt_X0_kindOf rfl rfl rfl cdX0_kindOf ⟨Nat.le_of_ble_eq_true rfl, Nat.le_of_ble_eq_true rfl⟩) 7 0 rfl rfl hz rfl hl.1 rfl (Nat.le_of_ble_eq_true rfl) dX2_sizeAt_5 ⟨Nat.le_refl _, Nat.le_refl _⟩ (fun H locs hz => ?_)
  by_cases c4 : r1 = (0 : Int32)
  · replace h := ite_t c4 h
    refine lv_tableIn (tgt := 48) (off := 40) hx hb dX2_sizeAt_8 (by rw [c4]; decide) (by rw [c4]; decide) (by rw [c4]; rfl) (by decide) ?_
    refine lv_aload_n hx hb dX2_sizeAt_48 rfl (lv_at hl 0 rfl) ?_
    refine va_get (v := .ref (a 7)) hx hb hts inX2_sizeAt_X2 hown hKK.1 hz.1 11 rfl rfl 0 (by decide) (hts _ (List.mem_of_getElem? (i := 1) rfl)) (fun _ h9 => h9) rfl dX2_sizeAt_49 ?_
    refine lv_iload_n hx hb dX2_sizeAt_52 rfl (lv_at hl 1 rfl) ?_
    obtain ⟨r5, e7, h⟩ := bd1_e h
    refine zcallVi (As := [.int x1]) (rest := []) CF hKK (KX0_toldOf_p (dC := dC) (dI := dI) (cI := cI) (cZ := cZ) (a := a) hok e7) (cwV 1 hts gX2_sizeAt_X0_toldOf rfl rfl rfl cdX0_toldOf ⟨Nat.le_of_ble_eq_true rfl, Nat.le_of_ble_eq_true rfl⟩) 7 0 rfl rfl hz rfl hl.1 rfl (Nat.le_of_ble_eq_true rfl) dX2_sizeAt_53 ⟨Nat.le_refl _, Nat.le_refl _⟩ (fun H locs hz => ?_)
    exact rt r5 σ 56 _ _ _ dX2_sizeAt_56 h hz
  replace h := ite_f c4 h
  by_cases c8 : r1 = (1 : Int32)
  · replace h := ite_t c8 h
    refine lv_tableIn (tgt := 57) (off := 49) hx hb dX2_sizeAt_8 (by rw [c8]; decide) (by rw [c8]; decide) (by rw [c8]; rfl) (by decide) ?_
    refine lv_iconst (v := (2 : Int32)) hx hb dX2_sizeAt_57 (by decide) ?_
    exact rt (2 : Int32) σ 58 _ _ _ dX2_sizeAt_58 h hz
  replace h := ite_f c8 h
  by_cases c9 : r1 = (2 : Int32)
  · replace h := ite_t c9 h
    refine lv_tableIn (tgt := 59) (off := 51) hx hb dX2_sizeAt_8 (by rw [c9]; decide) (by rw [c9]; decide) (by rw [c9]; rfl) (by decide) ?_
    refine lv_aload_n hx hb dX2_sizeAt_59 rfl (lv_at hl 0 rfl) ?_
    refine lv_iload_n hx hb dX2_sizeAt_60 rfl (lv_at hl 1 rfl) ?_
    obtain ⟨r10, e12, h⟩ := bd1_e h
    refine zcallVi (As := [.int x1]) (rest := []) CF hKK (KX2_isLong (dC := dC) (dI := dI) (cI := cI) (cZ := cZ) (a := a) hok e12) (cwV 1 hts gX2_sizeAt_X2_isLong rfl rfl rfl cdX2_isLong ⟨Nat.le_of_ble_eq_true rfl, Nat.le_of_ble_eq_true rfl⟩) 11 2 rfl rfl hz rfl hl.1 rfl (Nat.le_of_ble_eq_true rfl) dX2_sizeAt_61 ⟨Nat.le_refl _, Nat.le_refl _⟩ (fun H locs hz => ?_)
    refine lv_if_eq (tgt := 71) hx hb dX2_sizeAt_64 (by decide) (fun c13 => ?_) (fun c13 => ?_)
    · replace h := ite_t c13 h
      refine lv_iconst (v := (2 : Int32)) hx hb dX2_sizeAt_71 (by decide) ?_
      exact rt (2 : Int32) σ 72 _ _ _ dX2_sizeAt_72 h hz
    · replace h := ite_f c13 h
      refine lv_iconst (v := (4 : Int32)) hx hb dX2_sizeAt_67 (by decide) ?_
      refine lv_goto (tgt := 72) hx hb dX2_sizeAt_68 (by decide) ?_
      exact rt (4 : Int32) σ 72 _ _ _ dX2_sizeAt_72 h hz
  replace h := ite_f c9 h
  by_cases c14 : r1 = (4 : Int32)
  · replace h := ite_t c14 h
    refine lv_tableIn (tgt := 73) (off := 65) hx hb dX2_sizeAt_8 (by rw [c14]; decide) (by rw [c14]; decide) (by rw [c14]; rfl) (by decide) ?_
    refine lv_aload_n hx hb dX2_sizeAt_73 rfl (lv_at hl 0 rfl) ?_
    refine va_get (v := .ref (a 7)) hx hb hts inX2_sizeAt_X2 hown hKK.1 hz.1 11 rfl rfl 0 (by decide) (hts _ (List.mem_of_getElem? (i := 1) rfl)) (fun _ h9 => h9) rfl dX2_sizeAt_74 ?_
    refine lv_iload_n hx hb dX2_sizeAt_77 rfl (lv_at hl 1 rfl) ?_
    obtain ⟨r15, e17, h⟩ := bd1_e h
    refine zcallVi (As := [.int x1]) (rest := []) CF hKK (KX0_toldOf_p (dC := dC) (dI := dI) (cI := cI) (cZ := cZ) (a := a) hok e17) (cwV 1 hts gX2_sizeAt_X0_toldOf rfl rfl rfl cdX0_toldOf ⟨Nat.le_of_ble_eq_true rfl, Nat.le_of_ble_eq_true rfl⟩) 7 0 rfl rfl hz rfl hl.1 rfl (Nat.le_of_ble_eq_true rfl) dX2_sizeAt_78 ⟨Nat.le_refl _, Nat.le_refl _⟩ (fun H locs hz => ?_)
    refine lv_iload_n hx hb dX2_sizeAt_81 rfl (lv_at hl 2 rfl) ?_
    obtain ⟨r18, e20, h⟩ := bd1_e h
    refine zcallSNi (As := [.int r15, .int x2]) (rest := []) CF hKK (KX5_fillTo (dC := dC) (dI := dI) (cI := cI) (cZ := cZ) (a := a) hok e20) ⟨va_cnB 2 hts gX2_sizeAt_X5_fillTo_n114 rfl rfl rfl hKK.2.2.2.2.2.2.2.2.2.2.2.2.2.2.1 (hts _ (List.mem_of_getElem? (i := 25) rfl)) cdX5_fillTo.2 ⟨Nat.le_of_ble_eq_true rfl, Nat.le_of_ble_eq_true rfl⟩, hts _ (List.mem_of_getElem? (i := 24) rfl), trivial⟩ hz rfl hl.1 rfl (Nat.le_of_ble_eq_true rfl) dX2_sizeAt_82 ⟨Nat.le_refl _, Nat.le_refl _⟩ (fun H locs hz => ?_)
    exact rt r18 σ 85 _ _ _ dX2_sizeAt_85 h hz
  replace h := ite_f c14 h
  by_cases c21 : r1 = (5 : Int32)
  · replace h := ite_t c21 h
    refine lv_tableIn (tgt := 86) (off := 78) hx hb dX2_sizeAt_8 (by rw [c21]; decide) (by rw [c21]; decide) (by rw [c21]; rfl) (by decide) ?_
    refine lv_iconst (v := (2 : Int32)) hx hb dX2_sizeAt_86 (by decide) ?_
    exact rt (2 : Int32) σ 87 _ _ _ dX2_sizeAt_87 h hz
  replace h := ite_f c21 h
  by_cases c22 : r1 = (3 : Int32)
  · refine lv_tableIn (tgt := 88) (off := 80) hx hb dX2_sizeAt_8 (by rw [c22]; decide) (by rw [c22]; decide) (by rw [c22]; rfl) (by decide) ?_
    refine lv_iconst (v := (0 : Int32)) hx hb dX2_sizeAt_88 (by decide) ?_
    exact rt (0 : Int32) σ 89 _ _ _ dX2_sizeAt_89 h hz
  refine lv_tableOut (tgt := 88) hx hb dX2_sizeAt_8 (by have := lv_neT c4 (a := 0) rfl; have := lv_neT c8 (a := 1) rfl; have := lv_neT c9 (a := 2) rfl; have := lv_neT c14 (a := 4) rfl; have := lv_neT c21 (a := 5) rfl; have := lv_neT c22 (a := 3) rfl; omega) (by decide) ?_
  refine lv_iconst (v := (0 : Int32)) hx hb dX2_sizeAt_88 (by decide) ?_
  exact rt (0 : Int32) σ 89 _ _ _ dX2_sizeAt_89 h hz
def fX2_noteLabel (σ : St) (x1 : Int32) (x2 : Int32) : Option (St) :=
  (if x1 < 0 then (some σ) else ((if (8 : Int32) ≤ x1 then (some σ) else ((ck (¬ (x1 < 0 ∨ 8 ≤ Int32.toNatClampNeg x1)) <| some (sa σ 27 (Int32.toNatClampNeg x1) x2))))))
abbrev rmX2_noteLabel : Room := { frames := 0, cells := 0, slots := 0, locals := 0 }
set_option maxHeartbeats 4000000 in
set_option maxRecDepth 100000 in
theorem KX2_noteLabel {l : Launch} {dC : Nat → ClassId} {dI : Nat → Nat → Nat} {cI cZ : ClassId} {a : Nat → Nat} {σ : St} {x1 : Int32} {x2 : Int32} {σ2 : St} (hok : okA 30 a) (h : fX2_noteLabel σ x1 x2 = some σ2) (sz : Nat) : Met l yX2_noteLabel wsX2_noteLabel rmX2_noteLabel (Pz (dC, dI) cI cZ (wdC cI cZ a σ) sz [.ref (a 11), .int x1, .int x2]) (Qzv (dC, dI) 30 a (wdC cI cZ a σ2) sz) 0 0 (aN 30 a sz) := by
  refine Met.ofW (cc := cX2_noteLabel) (maxL := 3) (ret := none) (by decide) rfl ?_
  intro p e s m args below meth c s₁ B hml hv
  obtain ⟨hav, hsz, hP, hKK⟩ := hv
  have hx := B.exec
  have hb := B.bytes
  have hr := B.returns
  have hts := atoms_spec (ws := wsX2_noteLabel) B.pre
  have hown : s.vm.findClass RX2 = some m.cls := findClass_of_methodNamed B.named
  have hlocks := B.notSynchronized
  have CF : CallFix p m c cX2_noteLabel 3 s args wsX2_noteLabel RX2 := ⟨hx, hb, hml, hown, hts⟩
  have hz : zz (dC, dI) 30 a (wdC cI cZ a σ) s.heap s.heap [] := ⟨hP, va_S.rf⟩
  have hl := lv_entry [.ref (a 11), .int x1, .int x2] (n := 3) (Nat.le_of_ble_eq_true rfl)
  have hen : entryFrame m args 3 = entryFrame m ([.ref (a 11), .int x1, .int x2] : List Value).toArray 3 := by rw [hav]
  rw [hen, lg_entry_eq]
  generalize (lg_sl [.ref (a 11), .int x1, .int x2] ++ List.replicate (3 - (lg_sl [.ref (a 11), .int x1, .int x2]).length) Slot.unset).toArray = ls at hl ⊢
  have hl : lv_has ls 3 [(0, .ref (a 11)), (1, .int x1), (2, .int x2)] := hl
  have eR : (headSpec wsX2_noteLabel rmX2_noteLabel).room = rmX2_noteLabel := rfl
  rw [eR]
  have rt : ∀ (t : St) (pc : Nat) (H : Heap) (locs : List Loc) (ls : Array Slot), decode cX2_noteLabel pc = .ok (.return_, 1) → some t = some σ2 → zz (dC, dI) 30 a (wdC cI cZ a t) s.heap H locs → W p l e rmX2_noteLabel s m args below meth c H locs 0 0 (MQ below (Qzv (dC, dI) 30 a (wdC cI cZ a σ2) sz) args s 0 0 (aN 30 a sz)) (F0 m pc ls []) := by
    intro t pc H locs ls hd h hz
    cases h
    exact zvret hsz hx hb hr hlocks hz hd
  generalize (MQ below (Qzv (dC, dI) 30 a (wdC cI cZ a σ2) sz) args s 0 0 (aN 30 a sz)) = Q at rt ⊢
  unfold fX2_noteLabel at h
  refine lv_iload_n hx hb dX2_noteLabel_0 rfl (lv_at hl 1 rfl) ?_
  refine lv_if_lt (tgt := 20) hx hb dX2_noteLabel_1 (by decide) (fun c1 => ?_) (fun c1 => ?_)
  · replace h := ite_t c1 h
    exact rt σ 20 _ _ _ dX2_noteLabel_20 h hz
  · replace h := ite_f c1 h
    refine lv_iload_n hx hb dX2_noteLabel_4 rfl (lv_at hl 1 rfl) ?_
    refine lv_aload_n hx hb dX2_noteLabel_5 rfl (lv_at hl 0 rfl) ?_
    refine va_get (v := .ref (a 27)) hx hb hts inX2_noteLabel_X2 hown hKK.1 hz.1 11 rfl rfl 7 (by decide) (hts _ (List.mem_of_getElem? (i := 1) rfl)) (fun _ h9 => h9) rfl dX2_noteLabel_6 ?_
    refine va_alen (v := (8 : Int32)) hx hb hKK.1 hz.1 27 0 rfl rfl rfl dX2_noteLabel_9 ?_
    refine lv_icmp_ge (tgt := 20) hx hb dX2_noteLabel_10 (by decide) (fun c2 => ?_) (fun c2 => ?_)
    · replace h := ite_t c2 h
      exact rt σ 20 _ _ _ dX2_noteLabel_20 h hz
    · replace h := ite_f c2 h
      refine lv_aload_n hx hb dX2_noteLabel_13 rfl (lv_at hl 0 rfl) ?_
      refine va_get (v := .ref (a 27)) hx hb hts inX2_noteLabel_X2 hown hKK.1 hz.1 11 rfl rfl 7 (by decide) (hts _ (List.mem_of_getElem? (i := 1) rfl)) (fun _ h9 => h9) rfl dX2_noteLabel_14 ?_
      refine lv_iload_n hx hb dX2_noteLabel_17 rfl (lv_at hl 1 rfl) ?_
      refine lv_iload_n hx hb dX2_noteLabel_18 rfl (lv_at hl 2 rfl) ?_
      obtain ⟨c3, h⟩ := ck_e h
      refine ziast (f := σ 27) (w' := wdC cI cZ a (sa σ 27 (Int32.toNatClampNeg x1) x2)) hx hb hKK hok wkC hz 27 rfl c3 setCa_27 dX2_noteLabel_19 (fun H locs hz => ?_)
      exact rt (sa σ 27 (Int32.toNatClampNeg x1) x2) 20 _ _ _ dX2_noteLabel_20 h hz
def fX4_isItem (σ : St) (x1 : Int32) : Option (Int32) :=
  (if x1 < 0 then (some (0 : Int32)) else ((if (24 : Int32) ≤ x1 then (some (0 : Int32)) else (some (1 : Int32)))))
abbrev rmX4_isItem : Room := { frames := 0, cells := 0, slots := 0, locals := 0 }
set_option maxHeartbeats 4000000 in
set_option maxRecDepth 100000 in
theorem KX4_isItem {l : Launch} {dC : Nat → ClassId} {dI : Nat → Nat → Nat} {cI cZ : ClassId} {a : Nat → Nat} {σ : St} {x1 : Int32} {r : Int32} (hok : okA 30 a) (h : fX4_isItem σ x1 = some r) (sz : Nat) : Met l yX4_isItem wsX4_isItem rmX4_isItem (Pz (dC, dI) cI cZ (wdC cI cZ a σ) sz [.int x1]) (Qzi (dC, dI) 30 a (wdC cI cZ a σ) sz r) 0 0 (aN 30 a sz) := by
  refine Met.ofW (cc := cX4_isItem) (maxL := 1) (ret := (some .boolean)) (by decide) rfl ?_
  intro p e s m args below meth c s₁ B hml hv
  obtain ⟨hav, hsz, hP, hKK⟩ := hv
  have hx := B.exec
  have hb := B.bytes
  have hr := B.returns
  have hts := atoms_spec (ws := wsX4_isItem) B.pre
  have hown : s.vm.findClass RX4 = some m.cls := findClass_of_methodNamed B.named
  have hlocks := B.notSynchronized
  have CF : CallFix p m c cX4_isItem 1 s args wsX4_isItem RX4 := ⟨hx, hb, hml, hown, hts⟩
  have hz : zz (dC, dI) 30 a (wdC cI cZ a σ) s.heap s.heap [] := ⟨hP, va_S.rf⟩
  have hl := lv_entry [.int x1] (n := 1) (Nat.le_of_ble_eq_true rfl)
  have hen : entryFrame m args 1 = entryFrame m ([.int x1] : List Value).toArray 1 := by rw [hav]
  rw [hen, lg_entry_eq]
  generalize (lg_sl [.int x1] ++ List.replicate (1 - (lg_sl [.int x1]).length) Slot.unset).toArray = ls at hl ⊢
  have hl : lv_has ls 1 [(0, .int x1)] := hl
  have eR : (headSpec wsX4_isItem rmX4_isItem).room = rmX4_isItem := rfl
  rw [eR]
  have rt : ∀ (v : Int32) (t : St) (pc : Nat) (H : Heap) (locs : List Loc) (ls : Array Slot), decode cX4_isItem pc = .ok (.ireturn, 1) → some v = some r → zz (dC, dI) 30 a (wdC cI cZ a σ) s.heap H locs → (v = 0 ∨ v = 1) → W p l e rmX4_isItem s m args below meth c H locs 0 0 (MQ below (Qzi (dC, dI) 30 a (wdC cI cZ a σ) sz r) args s 0 0 (aN 30 a sz)) (F0 m pc ls [.int v]) := by
    intro v t pc H locs ls hd h hz hv
    cases h
    exact zzret hsz hx hb hr hlocks hv hz hd
  generalize (MQ below (Qzi (dC, dI) 30 a (wdC cI cZ a σ) sz r) args s 0 0 (aN 30 a sz)) = Q at rt ⊢
  unfold fX4_isItem at h
  refine lv_iload_n hx hb dX4_isItem_0 rfl (lv_at hl 0 rfl) ?_
  refine lv_if_lt (tgt := 14) hx hb dX4_isItem_1 (by decide) (fun c1 => ?_) (fun c1 => ?_)
  · replace h := ite_t c1 h
    refine lv_iconst (v := (0 : Int32)) hx hb dX4_isItem_14 (by decide) ?_
    exact rt (0 : Int32) σ 15 _ _ _ dX4_isItem_15 h hz (Or.inl rfl)
  · replace h := ite_f c1 h
    refine lv_iload_n hx hb dX4_isItem_4 rfl (lv_at hl 0 rfl) ?_
    refine lv_bipush (v := (24 : Int32)) hx hb dX4_isItem_5 (by decide) ?_
    refine lv_icmp_ge (tgt := 14) hx hb dX4_isItem_7 (by decide) (fun c2 => ?_) (fun c2 => ?_)
    · replace h := ite_t c2 h
      refine lv_iconst (v := (0 : Int32)) hx hb dX4_isItem_14 (by decide) ?_
      exact rt (0 : Int32) σ 15 _ _ _ dX4_isItem_15 h hz (Or.inl rfl)
    · replace h := ite_f c2 h
      refine lv_iconst (v := (1 : Int32)) hx hb dX4_isItem_10 (by decide) ?_
      refine lv_goto (tgt := 15) hx hb dX4_isItem_11 (by decide) ?_
      exact rt (1 : Int32) σ 15 _ _ _ dX4_isItem_15 h hz (Or.inr rfl)
def fX4_lay_i (σ : St) (x1 : Int32) (x2 : Int32) : Option (Int32 × St) :=
  (bd1 (fX4_isItem σ x1) fun r1 => (if r1 = 0 then (some (x2, σ)) else ((ck (¬ (x1 < 0 ∨ 24 ≤ Int32.toNatClampNeg x1)) <| (ck (¬ (x1 < 0 ∨ 24 ≤ Int32.toNatClampNeg x1)) <| some ((x2 + ((4 : Int32) * ((σ 16) (Int32.toNatClampNeg x1)))), (sa σ 17 (Int32.toNatClampNeg x1) x2)))))))
abbrev rmX4_lay_i : Room := { frames := 1, cells := 0, slots := 0, locals := 20 }
set_option maxHeartbeats 4000000 in
set_option maxRecDepth 100000 in
theorem KX4_lay_i {l : Launch} {dC : Nat → ClassId} {dI : Nat → Nat → Nat} {cI cZ : ClassId} {a : Nat → Nat} {σ : St} {x1 : Int32} {x2 : Int32} {r : Int32} {σ2 : St} (hok : okA 30 a) (h : fX4_lay_i σ x1 x2 = some (r, σ2)) (sz : Nat) : Met l yX4_lay wsX4_lay rmX4_lay_i (Pz (dC, dI) cI cZ (wdC cI cZ a σ) sz [.ref (a 12), .int x1, .int x2]) (Qzi (dC, dI) 30 a (wdC cI cZ a σ2) sz r) 0 0 (aN 30 a sz) := by
  refine Met.ofW (cc := cX4_lay) (maxL := 3) (ret := (some .int)) (by decide) rfl ?_
  intro p e s m args below meth c s₁ B hml hv
  obtain ⟨hav, hsz, hP, hKK⟩ := hv
  have hx := B.exec
  have hb := B.bytes
  have hr := B.returns
  have hts := atoms_spec (ws := wsX4_lay) B.pre
  have hown : s.vm.findClass RX4 = some m.cls := findClass_of_methodNamed B.named
  have hlocks := B.notSynchronized
  have CF : CallFix p m c cX4_lay 3 s args wsX4_lay RX4 := ⟨hx, hb, hml, hown, hts⟩
  have hz : zz (dC, dI) 30 a (wdC cI cZ a σ) s.heap s.heap [] := ⟨hP, va_S.rf⟩
  have hl := lv_entry [.ref (a 12), .int x1, .int x2] (n := 3) (Nat.le_of_ble_eq_true rfl)
  have hen : entryFrame m args 3 = entryFrame m ([.ref (a 12), .int x1, .int x2] : List Value).toArray 3 := by rw [hav]
  rw [hen, lg_entry_eq]
  generalize (lg_sl [.ref (a 12), .int x1, .int x2] ++ List.replicate (3 - (lg_sl [.ref (a 12), .int x1, .int x2]).length) Slot.unset).toArray = ls at hl ⊢
  have hl : lv_has ls 3 [(0, .ref (a 12)), (1, .int x1), (2, .int x2)] := hl
  have eR : (headSpec wsX4_lay rmX4_lay_i).room = rmX4_lay_i := rfl
  rw [eR]
  have rt : ∀ (v : Int32) (t : St) (pc : Nat) (H : Heap) (locs : List Loc) (ls : Array Slot), decode cX4_lay pc = .ok (.ireturn, 1) → some (v, t) = some (r, σ2) → zz (dC, dI) 30 a (wdC cI cZ a t) s.heap H locs → W p l e rmX4_lay_i s m args below meth c H locs 0 0 (MQ below (Qzi (dC, dI) 30 a (wdC cI cZ a σ2) sz r) args s 0 0 (aN 30 a sz)) (F0 m pc ls [.int v]) := by
    intro v t pc H locs ls hd h hz
    cases h
    exact ziret hsz hx hb hr hlocks hz hd
  generalize (MQ below (Qzi (dC, dI) 30 a (wdC cI cZ a σ2) sz r) args s 0 0 (aN 30 a sz)) = Q at rt ⊢
  unfold fX4_lay_i at h
  refine lv_iload_n hx hb dX4_lay_0 rfl (lv_at hl 1 rfl) ?_
  obtain ⟨r1, e3, h⟩ := bd1_e h
  refine zcallSi (As := [.int x1]) (rest := []) CF hKK (KX4_isItem (dC := dC) (dI := dI) (cI := cI) (cZ := cZ) (a := a) hok e3) (va_cwS 1 hts gX4_lay_X4_isItem rfl rfl rfl cdX4_isItem.2 ⟨Nat.le_of_ble_eq_true rfl, Nat.le_of_ble_eq_true rfl⟩) hz rfl hl.1 rfl (Nat.le_of_ble_eq_true rfl) dX4_lay_1 ⟨Nat.le_refl _, Nat.le_refl _⟩ (fun H locs hz => ?_)
  refine lv_if_ne (tgt := 9) hx hb dX4_lay_4 (by decide) (fun c4 => ?_) (fun c4 => ?_)
  · replace h := ite_f c4 h
    refine lv_aload_n hx hb dX4_lay_9 rfl (lv_at hl 0 rfl) ?_
    refine va_get (v := .ref (a 17)) hx hb hts inX4_lay_X4 hown hKK.1 hz.1 12 rfl rfl 4 (by decide) (hts _ (List.mem_of_getElem? (i := 1) rfl)) (fun _ h9 => h9) rfl dX4_lay_10 ?_
    refine lv_iload_n hx hb dX4_lay_13 rfl (lv_at hl 1 rfl) ?_
    refine lv_iload_n hx hb dX4_lay_14 rfl (lv_at hl 2 rfl) ?_
    obtain ⟨c5, h⟩ := ck_e h
    refine ziast (f := σ 17) (w' := wdC cI cZ a (sa σ 17 (Int32.toNatClampNeg x1) x2)) hx hb hKK hok wkC hz 17 rfl c5 setCa_17 dX4_lay_15 (fun H locs hz => ?_)
    refine lv_iload_n hx hb dX4_lay_16 rfl (lv_at hl 2 rfl) ?_
    refine lv_iconst (v := (4 : Int32)) hx hb dX4_lay_17 (by decide) ?_
    refine lv_aload_n hx hb dX4_lay_18 rfl (lv_at hl 0 rfl) ?_
    refine va_get (v := .ref (a 16)) hx hb hts inX4_lay_X4 hown hKK.1 hz.1 12 rfl rfl 3 (by decide) (hts _ (List.mem_of_getElem? (i := 2) rfl)) (fun _ h9 => h9) rfl dX4_lay_19 ?_
    refine lv_iload_n hx hb dX4_lay_22 rfl (lv_at hl 1 rfl) ?_
    obtain ⟨c6, h⟩ := ck_e h
    refine va_iald (f := (σ 16)) hx hb hKK.1 hz.1 16 0 rfl rfl c6 dX4_lay_23 ?_
    refine lv_imul hx hb dX4_lay_24 ?_
    refine lv_iadd hx hb dX4_lay_25 ?_
    exact rt (x2 + ((4 : Int32) * ((σ 16) (Int32.toNatClampNeg x1)))) (sa σ 17 (Int32.toNatClampNeg x1) x2) 26 _ _ _ dX4_lay_26 h hz
  · replace h := ite_t c4 h
    refine lv_iload_n hx hb dX4_lay_7 rfl (lv_at hl 2 rfl) ?_
    exact rt x2 σ 8 _ _ _ dX4_lay_8 h hz
def fX4_lay_c (σ : St) (x1 : Int32) (x2 : Int32) : Option (Int32 × St) :=
  (bd1 (fX4_isItem σ x1) fun r1 => (if r1 = 0 then (some (x2, σ)) else ((ck (¬ (x1 < 0 ∨ 24 ≤ Int32.toNatClampNeg x1)) <| (ck (¬ (x1 < 0 ∨ 24 ≤ Int32.toNatClampNeg x1)) <| some ((x2 + ((4 : Int32) * ((σ 22) (Int32.toNatClampNeg x1)))), (sa σ 23 (Int32.toNatClampNeg x1) x2)))))))
abbrev rmX4_lay_c : Room := { frames := 1, cells := 0, slots := 0, locals := 20 }
set_option maxHeartbeats 4000000 in
set_option maxRecDepth 100000 in
theorem KX4_lay_c {l : Launch} {dC : Nat → ClassId} {dI : Nat → Nat → Nat} {cI cZ : ClassId} {a : Nat → Nat} {σ : St} {x1 : Int32} {x2 : Int32} {r : Int32} {σ2 : St} (hok : okA 30 a) (h : fX4_lay_c σ x1 x2 = some (r, σ2)) (sz : Nat) : Met l yX4_lay wsX4_lay rmX4_lay_c (Pz (dC, dI) cI cZ (wdC cI cZ a σ) sz [.ref (a 18), .int x1, .int x2]) (Qzi (dC, dI) 30 a (wdC cI cZ a σ2) sz r) 0 0 (aN 30 a sz) := by
  refine Met.ofW (cc := cX4_lay) (maxL := 3) (ret := (some .int)) (by decide) rfl ?_
  intro p e s m args below meth c s₁ B hml hv
  obtain ⟨hav, hsz, hP, hKK⟩ := hv
  have hx := B.exec
  have hb := B.bytes
  have hr := B.returns
  have hts := atoms_spec (ws := wsX4_lay) B.pre
  have hown : s.vm.findClass RX4 = some m.cls := findClass_of_methodNamed B.named
  have hlocks := B.notSynchronized
  have CF : CallFix p m c cX4_lay 3 s args wsX4_lay RX4 := ⟨hx, hb, hml, hown, hts⟩
  have hz : zz (dC, dI) 30 a (wdC cI cZ a σ) s.heap s.heap [] := ⟨hP, va_S.rf⟩
  have hl := lv_entry [.ref (a 18), .int x1, .int x2] (n := 3) (Nat.le_of_ble_eq_true rfl)
  have hen : entryFrame m args 3 = entryFrame m ([.ref (a 18), .int x1, .int x2] : List Value).toArray 3 := by rw [hav]
  rw [hen, lg_entry_eq]
  generalize (lg_sl [.ref (a 18), .int x1, .int x2] ++ List.replicate (3 - (lg_sl [.ref (a 18), .int x1, .int x2]).length) Slot.unset).toArray = ls at hl ⊢
  have hl : lv_has ls 3 [(0, .ref (a 18)), (1, .int x1), (2, .int x2)] := hl
  have eR : (headSpec wsX4_lay rmX4_lay_c).room = rmX4_lay_c := rfl
  rw [eR]
  have rt : ∀ (v : Int32) (t : St) (pc : Nat) (H : Heap) (locs : List Loc) (ls : Array Slot), decode cX4_lay pc = .ok (.ireturn, 1) → some (v, t) = some (r, σ2) → zz (dC, dI) 30 a (wdC cI cZ a t) s.heap H locs → W p l e rmX4_lay_c s m args below meth c H locs 0 0 (MQ below (Qzi (dC, dI) 30 a (wdC cI cZ a σ2) sz r) args s 0 0 (aN 30 a sz)) (F0 m pc ls [.int v]) := by
    intro v t pc H locs ls hd h hz
    cases h
    exact ziret hsz hx hb hr hlocks hz hd
  generalize (MQ below (Qzi (dC, dI) 30 a (wdC cI cZ a σ2) sz r) args s 0 0 (aN 30 a sz)) = Q at rt ⊢
  unfold fX4_lay_c at h
  refine lv_iload_n hx hb dX4_lay_0 rfl (lv_at hl 1 rfl) ?_
  obtain ⟨r1, e3, h⟩ := bd1_e h
  refine zcallSi (As := [.int x1]) (rest := []) CF hKK (KX4_isItem (dC := dC) (dI := dI) (cI := cI) (cZ := cZ) (a := a) hok e3) (va_cwS 1 hts gX4_lay_X4_isItem rfl rfl rfl cdX4_isItem.2 ⟨Nat.le_of_ble_eq_true rfl, Nat.le_of_ble_eq_true rfl⟩) hz rfl hl.1 rfl (Nat.le_of_ble_eq_true rfl) dX4_lay_1 ⟨Nat.le_refl _, Nat.le_refl _⟩ (fun H locs hz => ?_)
  refine lv_if_ne (tgt := 9) hx hb dX4_lay_4 (by decide) (fun c4 => ?_) (fun c4 => ?_)
  · replace h := ite_f c4 h
    refine lv_aload_n hx hb dX4_lay_9 rfl (lv_at hl 0 rfl) ?_
    refine va_get (v := .ref (a 23)) hx hb hts inX4_lay_X4 hown hKK.1 hz.1 18 rfl rfl 4 (by decide) (hts _ (List.mem_of_getElem? (i := 1) rfl)) (fun _ h9 => h9) rfl dX4_lay_10 ?_
    refine lv_iload_n hx hb dX4_lay_13 rfl (lv_at hl 1 rfl) ?_
    refine lv_iload_n hx hb dX4_lay_14 rfl (lv_at hl 2 rfl) ?_
    obtain ⟨c5, h⟩ := ck_e h
    refine ziast (f := σ 23) (w' := wdC cI cZ a (sa σ 23 (Int32.toNatClampNeg x1) x2)) hx hb hKK hok wkC hz 23 rfl c5 setCa_23 dX4_lay_15 (fun H locs hz => ?_)
    refine lv_iload_n hx hb dX4_lay_16 rfl (lv_at hl 2 rfl) ?_
    refine lv_iconst (v := (4 : Int32)) hx hb dX4_lay_17 (by decide) ?_
    refine lv_aload_n hx hb dX4_lay_18 rfl (lv_at hl 0 rfl) ?_
    refine va_get (v := .ref (a 22)) hx hb hts inX4_lay_X4 hown hKK.1 hz.1 18 rfl rfl 3 (by decide) (hts _ (List.mem_of_getElem? (i := 2) rfl)) (fun _ h9 => h9) rfl dX4_lay_19 ?_
    refine lv_iload_n hx hb dX4_lay_22 rfl (lv_at hl 1 rfl) ?_
    obtain ⟨c6, h⟩ := ck_e h
    refine va_iald (f := (σ 22)) hx hb hKK.1 hz.1 22 0 rfl rfl c6 dX4_lay_23 ?_
    refine lv_imul hx hb dX4_lay_24 ?_
    refine lv_iadd hx hb dX4_lay_25 ?_
    exact rt (x2 + ((4 : Int32) * ((σ 22) (Int32.toNatClampNeg x1)))) (sa σ 23 (Int32.toNatClampNeg x1) x2) 26 _ _ _ dX4_lay_26 h hz
  · replace h := ite_t c4 h
    refine lv_iload_n hx hb dX4_lay_7 rfl (lv_at hl 2 rfl) ?_
    exact rt x2 σ 8 _ _ _ dX4_lay_8 h hz
def fX4_isIn_i (σ : St) (x1 : Int32) : Option (Int32) :=
  (bd1 (fX4_isItem σ x1) fun r1 => (if r1 = 0 then (some (0 : Int32)) else ((ck (¬ (x1 < 0 ∨ 24 ≤ Int32.toNatClampNeg x1)) <| (if ((σ 16) (Int32.toNatClampNeg x1)) ≤ 0 then (some (0 : Int32)) else (some (1 : Int32)))))))
abbrev rmX4_isIn_i : Room := { frames := 1, cells := 0, slots := 0, locals := 20 }
set_option maxHeartbeats 4000000 in
set_option maxRecDepth 100000 in
theorem KX4_isIn_i {l : Launch} {dC : Nat → ClassId} {dI : Nat → Nat → Nat} {cI cZ : ClassId} {a : Nat → Nat} {σ : St} {x1 : Int32} {r : Int32} (hok : okA 30 a) (h : fX4_isIn_i σ x1 = some r) (sz : Nat) : Met l yX4_isIn wsX4_isIn rmX4_isIn_i (Pz (dC, dI) cI cZ (wdC cI cZ a σ) sz [.ref (a 12), .int x1]) (Qzi (dC, dI) 30 a (wdC cI cZ a σ) sz r) 0 0 (aN 30 a sz) := by
  refine Met.ofW (cc := cX4_isIn) (maxL := 2) (ret := (some .boolean)) (by decide) rfl ?_
  intro p e s m args below meth c s₁ B hml hv
  obtain ⟨hav, hsz, hP, hKK⟩ := hv
  have hx := B.exec
  have hb := B.bytes
  have hr := B.returns
  have hts := atoms_spec (ws := wsX4_isIn) B.pre
  have hown : s.vm.findClass RX4 = some m.cls := findClass_of_methodNamed B.named
  have hlocks := B.notSynchronized
  have CF : CallFix p m c cX4_isIn 2 s args wsX4_isIn RX4 := ⟨hx, hb, hml, hown, hts⟩
  have hz : zz (dC, dI) 30 a (wdC cI cZ a σ) s.heap s.heap [] := ⟨hP, va_S.rf⟩
  have hl := lv_entry [.ref (a 12), .int x1] (n := 2) (Nat.le_of_ble_eq_true rfl)
  have hen : entryFrame m args 2 = entryFrame m ([.ref (a 12), .int x1] : List Value).toArray 2 := by rw [hav]
  rw [hen, lg_entry_eq]
  generalize (lg_sl [.ref (a 12), .int x1] ++ List.replicate (2 - (lg_sl [.ref (a 12), .int x1]).length) Slot.unset).toArray = ls at hl ⊢
  have hl : lv_has ls 2 [(0, .ref (a 12)), (1, .int x1)] := hl
  have eR : (headSpec wsX4_isIn rmX4_isIn_i).room = rmX4_isIn_i := rfl
  rw [eR]
  have rt : ∀ (v : Int32) (t : St) (pc : Nat) (H : Heap) (locs : List Loc) (ls : Array Slot), decode cX4_isIn pc = .ok (.ireturn, 1) → some v = some r → zz (dC, dI) 30 a (wdC cI cZ a σ) s.heap H locs → (v = 0 ∨ v = 1) → W p l e rmX4_isIn_i s m args below meth c H locs 0 0 (MQ below (Qzi (dC, dI) 30 a (wdC cI cZ a σ) sz r) args s 0 0 (aN 30 a sz)) (F0 m pc ls [.int v]) := by
    intro v t pc H locs ls hd h hz hv
    cases h
    exact zzret hsz hx hb hr hlocks hv hz hd
  generalize (MQ below (Qzi (dC, dI) 30 a (wdC cI cZ a σ) sz r) args s 0 0 (aN 30 a sz)) = Q at rt ⊢
  unfold fX4_isIn_i at h
  refine lv_iload_n hx hb dX4_isIn_0 rfl (lv_at hl 1 rfl) ?_
  obtain ⟨r1, e3, h⟩ := bd1_e h
  refine zcallSi (As := [.int x1]) (rest := []) CF hKK (KX4_isItem (dC := dC) (dI := dI) (cI := cI) (cZ := cZ) (a := a) hok e3) (va_cwS 1 hts gX4_isIn_X4_isItem rfl rfl rfl cdX4_isItem.2 ⟨Nat.le_of_ble_eq_true rfl, Nat.le_of_ble_eq_true rfl⟩) hz rfl hl.1 rfl (Nat.le_of_ble_eq_true rfl) dX4_isIn_1 ⟨Nat.le_refl _, Nat.le_refl _⟩ (fun H locs hz => ?_)
  refine lv_if_eq (tgt := 20) hx hb dX4_isIn_4 (by decide) (fun c4 => ?_) (fun c4 => ?_)
  · replace h := ite_t c4 h
    refine lv_iconst (v := (0 : Int32)) hx hb dX4_isIn_20 (by decide) ?_
    exact rt (0 : Int32) σ 21 _ _ _ dX4_isIn_21 h hz (Or.inl rfl)
  · replace h := ite_f c4 h
    refine lv_aload_n hx hb dX4_isIn_7 rfl (lv_at hl 0 rfl) ?_
    refine va_get (v := .ref (a 16)) hx hb hts inX4_isIn_X4 hown hKK.1 hz.1 12 rfl rfl 3 (by decide) (hts _ (List.mem_of_getElem? (i := 1) rfl)) (fun _ h9 => h9) rfl dX4_isIn_8 ?_
    refine lv_iload_n hx hb dX4_isIn_11 rfl (lv_at hl 1 rfl) ?_
    obtain ⟨c5, h⟩ := ck_e h
    refine va_iald (f := (σ 16)) hx hb hKK.1 hz.1 16 0 rfl rfl c5 dX4_isIn_12 ?_
    refine lv_if_le (tgt := 20) hx hb dX4_isIn_13 (by decide) (fun c6 => ?_) (fun c6 => ?_)
    · replace h := ite_t c6 h
      refine lv_iconst (v := (0 : Int32)) hx hb dX4_isIn_20 (by decide) ?_
      exact rt (0 : Int32) σ 21 _ _ _ dX4_isIn_21 h hz (Or.inl rfl)
    · replace h := ite_f c6 h
      refine lv_iconst (v := (1 : Int32)) hx hb dX4_isIn_16 (by decide) ?_
      refine lv_goto (tgt := 21) hx hb dX4_isIn_17 (by decide) ?_
      exact rt (1 : Int32) σ 21 _ _ _ dX4_isIn_21 h hz (Or.inr rfl)
def fX4_isIn_c (σ : St) (x1 : Int32) : Option (Int32) :=
  (bd1 (fX4_isItem σ x1) fun r1 => (if r1 = 0 then (some (0 : Int32)) else ((ck (¬ (x1 < 0 ∨ 24 ≤ Int32.toNatClampNeg x1)) <| (if ((σ 22) (Int32.toNatClampNeg x1)) ≤ 0 then (some (0 : Int32)) else (some (1 : Int32)))))))
abbrev rmX4_isIn_c : Room := { frames := 1, cells := 0, slots := 0, locals := 20 }
set_option maxHeartbeats 4000000 in
set_option maxRecDepth 100000 in
theorem KX4_isIn_c {l : Launch} {dC : Nat → ClassId} {dI : Nat → Nat → Nat} {cI cZ : ClassId} {a : Nat → Nat} {σ : St} {x1 : Int32} {r : Int32} (hok : okA 30 a) (h : fX4_isIn_c σ x1 = some r) (sz : Nat) : Met l yX4_isIn wsX4_isIn rmX4_isIn_c (Pz (dC, dI) cI cZ (wdC cI cZ a σ) sz [.ref (a 18), .int x1]) (Qzi (dC, dI) 30 a (wdC cI cZ a σ) sz r) 0 0 (aN 30 a sz) := by
  refine Met.ofW (cc := cX4_isIn) (maxL := 2) (ret := (some .boolean)) (by decide) rfl ?_
  intro p e s m args below meth c s₁ B hml hv
  obtain ⟨hav, hsz, hP, hKK⟩ := hv
  have hx := B.exec
  have hb := B.bytes
  have hr := B.returns
  have hts := atoms_spec (ws := wsX4_isIn) B.pre
  have hown : s.vm.findClass RX4 = some m.cls := findClass_of_methodNamed B.named
  have hlocks := B.notSynchronized
  have CF : CallFix p m c cX4_isIn 2 s args wsX4_isIn RX4 := ⟨hx, hb, hml, hown, hts⟩
  have hz : zz (dC, dI) 30 a (wdC cI cZ a σ) s.heap s.heap [] := ⟨hP, va_S.rf⟩
  have hl := lv_entry [.ref (a 18), .int x1] (n := 2) (Nat.le_of_ble_eq_true rfl)
  have hen : entryFrame m args 2 = entryFrame m ([.ref (a 18), .int x1] : List Value).toArray 2 := by rw [hav]
  rw [hen, lg_entry_eq]
  generalize (lg_sl [.ref (a 18), .int x1] ++ List.replicate (2 - (lg_sl [.ref (a 18), .int x1]).length) Slot.unset).toArray = ls at hl ⊢
  have hl : lv_has ls 2 [(0, .ref (a 18)), (1, .int x1)] := hl
  have eR : (headSpec wsX4_isIn rmX4_isIn_c).room = rmX4_isIn_c := rfl
  rw [eR]
  have rt : ∀ (v : Int32) (t : St) (pc : Nat) (H : Heap) (locs : List Loc) (ls : Array Slot), decode cX4_isIn pc = .ok (.ireturn, 1) → some v = some r → zz (dC, dI) 30 a (wdC cI cZ a σ) s.heap H locs → (v = 0 ∨ v = 1) → W p l e rmX4_isIn_c s m args below meth c H locs 0 0 (MQ below (Qzi (dC, dI) 30 a (wdC cI cZ a σ) sz r) args s 0 0 (aN 30 a sz)) (F0 m pc ls [.int v]) := by
    intro v t pc H locs ls hd h hz hv
    cases h
    exact zzret hsz hx hb hr hlocks hv hz hd
  generalize (MQ below (Qzi (dC, dI) 30 a (wdC cI cZ a σ) sz r) args s 0 0 (aN 30 a sz)) = Q at rt ⊢
  unfold fX4_isIn_c at h
  refine lv_iload_n hx hb dX4_isIn_0 rfl (lv_at hl 1 rfl) ?_
  obtain ⟨r1, e3, h⟩ := bd1_e h
  refine zcallSi (As := [.int x1]) (rest := []) CF hKK (KX4_isItem (dC := dC) (dI := dI) (cI := cI) (cZ := cZ) (a := a) hok e3) (va_cwS 1 hts gX4_isIn_X4_isItem rfl rfl rfl cdX4_isItem.2 ⟨Nat.le_of_ble_eq_true rfl, Nat.le_of_ble_eq_true rfl⟩) hz rfl hl.1 rfl (Nat.le_of_ble_eq_true rfl) dX4_isIn_1 ⟨Nat.le_refl _, Nat.le_refl _⟩ (fun H locs hz => ?_)
  refine lv_if_eq (tgt := 20) hx hb dX4_isIn_4 (by decide) (fun c4 => ?_) (fun c4 => ?_)
  · replace h := ite_t c4 h
    refine lv_iconst (v := (0 : Int32)) hx hb dX4_isIn_20 (by decide) ?_
    exact rt (0 : Int32) σ 21 _ _ _ dX4_isIn_21 h hz (Or.inl rfl)
  · replace h := ite_f c4 h
    refine lv_aload_n hx hb dX4_isIn_7 rfl (lv_at hl 0 rfl) ?_
    refine va_get (v := .ref (a 22)) hx hb hts inX4_isIn_X4 hown hKK.1 hz.1 18 rfl rfl 3 (by decide) (hts _ (List.mem_of_getElem? (i := 1) rfl)) (fun _ h9 => h9) rfl dX4_isIn_8 ?_
    refine lv_iload_n hx hb dX4_isIn_11 rfl (lv_at hl 1 rfl) ?_
    obtain ⟨c5, h⟩ := ck_e h
    refine va_iald (f := (σ 22)) hx hb hKK.1 hz.1 22 0 rfl rfl c5 dX4_isIn_12 ?_
    refine lv_if_le (tgt := 20) hx hb dX4_isIn_13 (by decide) (fun c6 => ?_) (fun c6 => ?_)
    · replace h := ite_t c6 h
      refine lv_iconst (v := (0 : Int32)) hx hb dX4_isIn_20 (by decide) ?_
      exact rt (0 : Int32) σ 21 _ _ _ dX4_isIn_21 h hz (Or.inl rfl)
    · replace h := ite_f c6 h
      refine lv_iconst (v := (1 : Int32)) hx hb dX4_isIn_16 (by decide) ?_
      refine lv_goto (tgt := 21) hx hb dX4_isIn_17 (by decide) ?_
      exact rt (1 : Int32) σ 21 _ _ _ dX4_isIn_21 h hz (Or.inr rfl)
