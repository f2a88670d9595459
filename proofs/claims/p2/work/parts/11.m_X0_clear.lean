def fX0_clear_r (σ : St)  : Option (St) :=
  some (si (si σ 46 (0 : Int32)) 47 (0 : Int32))
abbrev rmX0_clear_r : Room := { frames := 0, cells := 0, slots := 0, locals := 0 }
set_option maxHeartbeats 4000000 in
set_option maxRecDepth 100000 in
theorem KX0_clear_r {l : Launch} {dC : Nat → ClassId} {dI : Nat → Nat → Nat} {cI cZ : ClassId} {a : Nat → Nat} {σ : St}  {σ2 : St} (hok : okA 30 a) (h : fX0_clear_r σ  = some σ2) (sz : Nat) : Met l yX0_clear wsX0_clear rmX0_clear_r (Pz (dC, dI) cI cZ (wdC cI cZ a σ) sz [.ref (a 4)]) (Qzv (dC, dI) 30 a (wdC cI cZ a σ2) sz) 0 0 (aN 30 a sz) := by
  refine Met.ofW (cc := cX0_clear) (maxL := 1) (ret := none) (by decide) rfl ?_
  intro p e s m args below meth c s₁ B hml hv
  obtain ⟨hav, hsz, hP, hKK⟩ := hv
  have hx := B.exec
  have hb := B.bytes
  have hr := B.returns
  have hts := atoms_spec (ws := wsX0_clear) B.pre
  have hown : s.vm.findClass RX0 = some m.cls := findClass_of_methodNamed B.named
  have hlocks := B.notSynchronized
  have CF : CallFix p m c cX0_clear 1 s args wsX0_clear RX0 := ⟨hx, hb, hml, hown, hts⟩
  have hz : zz (dC, dI) 30 a (wdC cI cZ a σ) s.heap s.heap [] := ⟨hP, va_S.rf⟩
  have hl := lv_entry [.ref (a 4)] (n := 1) (Nat.le_of_ble_eq_true rfl)
  have hen : entryFrame m args 1 = entryFrame m ([.ref (a 4)] : List Value).toArray 1 := by rw [hav]
  rw [hen, lg_entry_eq]
  generalize (lg_sl [.ref (a 4)] ++ List.replicate (1 - (lg_sl [.ref (a 4)]).length) Slot.unset).toArray = ls at hl ⊢
  have hl : lv_has ls 1 [(0, .ref (a 4))] := hl
  have eR : (headSpec wsX0_clear rmX0_clear_r).room = rmX0_clear_r := rfl
  rw [eR]
  have rt : ∀ (t : St) (pc : Nat) (H : Heap) (locs : List Loc) (ls : Array Slot), decode cX0_clear pc = .ok (.return_, 1) → some t = some σ2 → zz (dC, dI) 30 a (wdC cI cZ a t) s.heap H locs → W p l e rmX0_clear_r s m args below meth c H locs 0 0 (MQ below (Qzv (dC, dI) 30 a (wdC cI cZ a σ2) sz) args s 0 0 (aN 30 a sz)) (F0 m pc ls []) := by
    intro t pc H locs ls hd h hz
    cases h
    exact zvret hsz hx hb hr hlocks hz hd
  generalize (MQ below (Qzv (dC, dI) 30 a (wdC cI cZ a σ2) sz) args s 0 0 (aN 30 a sz)) = Q at rt ⊢
  unfold fX0_clear_r at h
  refine lv_aload_n hx hb dX0_clear_0 rfl (lv_at hl 0 rfl) ?_
  refine lv_iconst (v := (0 : Int32)) hx hb dX0_clear_1 (by decide) ?_
  refine zput (ty := .int) (w' := wdC cI cZ a (si σ 46 (0 : Int32))) hx hb hts inX0_clear_X0 tyX0 tyX0_ok nmX0 hown hKK hok wkC hz 4 rfl rfl 2 (by decide) (hts _ (List.mem_of_getElem? (i := 1) rfl)) (fun _ h9 => h9) rfl rfl rfl rfl (Nat.le_of_ble_eq_true rfl) setCi_46 dX0_clear_2 (fun H locs hz => ?_)
  refine lv_aload_n hx hb dX0_clear_5 rfl (lv_at hl 0 rfl) ?_
  refine lv_iconst (v := (0 : Int32)) hx hb dX0_clear_6 (by decide) ?_
  refine zput (ty := .int) (w' := wdC cI cZ a (si (si σ 46 (0 : Int32)) 47 (0 : Int32))) hx hb hts inX0_clear_X0 tyX0 tyX0_ok nmX0 hown hKK hok wkC hz 4 rfl rfl 3 (by decide) (hts _ (List.mem_of_getElem? (i := 2) rfl)) (fun _ h9 => h9) rfl rfl rfl rfl (Nat.le_of_ble_eq_true rfl) setCi_47 dX0_clear_7 (fun H locs hz => ?_)
  exact rt (si (si σ 46 (0 : Int32)) 47 (0 : Int32)) 10 _ _ _ dX0_clear_10 h hz
def fX0_clear_p (σ : St)  : Option (St) :=
  some (si (si σ 48 (0 : Int32)) 49 (0 : Int32))
abbrev rmX0_clear_p : Room := { frames := 0, cells := 0, slots := 0, locals := 0 }
set_option maxHeartbeats 4000000 in
set_option maxRecDepth 100000 in
theorem KX0_clear_p {l : Launch} {dC : Nat → ClassId} {dI : Nat → Nat → Nat} {cI cZ : ClassId} {a : Nat → Nat} {σ : St}  {σ2 : St} (hok : okA 30 a) (h : fX0_clear_p σ  = some σ2) (sz : Nat) : Met l yX0_clear wsX0_clear rmX0_clear_p (Pz (dC, dI) cI cZ (wdC cI cZ a σ) sz [.ref (a 7)]) (Qzv (dC, dI) 30 a (wdC cI cZ a σ2) sz) 0 0 (aN 30 a sz) := by
  refine Met.ofW (cc := cX0_clear) (maxL := 1) (ret := none) (by decide) rfl ?_
  intro p e s m args below meth c s₁ B hml hv
  obtain ⟨hav, hsz, hP, hKK⟩ := hv
  have hx := B.exec
  have hb := B.bytes
  have hr := B.returns
  have hts := atoms_spec (ws := wsX0_clear) B.pre
  have hown : s.vm.findClass RX0 = some m.cls := findClass_of_methodNamed B.named
  have hlocks := B.notSynchronized
  have CF : CallFix p m c cX0_clear 1 s args wsX0_clear RX0 := ⟨hx, hb, hml, hown, hts⟩
  have hz : zz (dC, dI) 30 a (wdC cI cZ a σ) s.heap s.heap [] := ⟨hP, va_S.rf⟩
  have hl := lv_entry [.ref (a 7)] (n := 1) (Nat.le_of_ble_eq_true rfl)
  have hen : entryFrame m args 1 = entryFrame m ([.ref (a 7)] : List Value).toArray 1 := by rw [hav]
  rw [hen, lg_entry_eq]
  generalize (lg_sl [.ref (a 7)] ++ List.replicate (1 - (lg_sl [.ref (a 7)]).length) Slot.unset).toArray = ls at hl ⊢
  have hl : lv_has ls 1 [(0, .ref (a 7))] := hl
  have eR : (headSpec wsX0_clear rmX0_clear_p).room = rmX0_clear_p := rfl
  rw [eR]
  have rt : ∀ (t : St) (pc : Nat) (H : Heap) (locs : List Loc) (ls : Array Slot), decode cX0_clear pc = .ok (.return_, 1) → some t = some σ2 → zz (dC, dI) 30 a (wdC cI cZ a t) s.heap H locs → W p l e rmX0_clear_p s m args below meth c H locs 0 0 (MQ below (Qzv (dC, dI) 30 a (wdC cI cZ a σ2) sz) args s 0 0 (aN 30 a sz)) (F0 m pc ls []) := by
    intro t pc H locs ls hd h hz
    cases h
    exact zvret hsz hx hb hr hlocks hz hd
  generalize (MQ below (Qzv (dC, dI) 30 a (wdC cI cZ a σ2) sz) args s 0 0 (aN 30 a sz)) = Q at rt ⊢
  unfold fX0_clear_p at h
  refine lv_aload_n hx hb dX0_clear_0 rfl (lv_at hl 0 rfl) ?_
  refine lv_iconst (v := (0 : Int32)) hx hb dX0_clear_1 (by decide) ?_
  refine zput (ty := .int) (w' := wdC cI cZ a (si σ 48 (0 : Int32))) hx hb hts inX0_clear_X0 tyX0 tyX0_ok nmX0 hown hKK hok wkC hz 7 rfl rfl 2 (by decide) (hts _ (List.mem_of_getElem? (i := 1) rfl)) (fun _ h9 => h9) rfl rfl rfl rfl (Nat.le_of_ble_eq_true rfl) setCi_48 dX0_clear_2 (fun H locs hz => ?_)
  refine lv_aload_n hx hb dX0_clear_5 rfl (lv_at hl 0 rfl) ?_
  refine lv_iconst (v := (0 : Int32)) hx hb dX0_clear_6 (by decide) ?_
  refine zput (ty := .int) (w' := wdC cI cZ a (si (si σ 48 (0 : Int32)) 49 (0 : Int32))) hx hb hts inX0_clear_X0 tyX0 tyX0_ok nmX0 hown hKK hok wkC hz 7 rfl rfl 3 (by decide) (hts _ (List.mem_of_getElem? (i := 2) rfl)) (fun _ h9 => h9) rfl rfl rfl rfl (Nat.le_of_ble_eq_true rfl) setCi_49 dX0_clear_7 (fun H locs hz => ?_)
  exact rt (si (si σ 48 (0 : Int32)) 49 (0 : Int32)) 10 _ _ _ dX0_clear_10 h hz
def fX0_add_r_b68  (σ : St) : Option (Int32 × St) :=
  some ((1 : Int32), (si σ 46 ((σ 46 0) + (1 : Int32))))
def fX0_add_r (σ : St) (x1 : Int32) (x2 : Int32) : Option (Int32 × St) :=
  (if (σ 46 0) < 0 then (some ((0 : Int32), σ)) else ((if (24 : Int32) ≤ (σ 46 0) then (some ((0 : Int32), σ)) else ((if (σ 46 0) < (24 : Int32) then ((ck (¬ ((σ 46 0) < 0 ∨ 24 ≤ Int32.toNatClampNeg (σ 46 0))) <| (ck (¬ ((σ 46 0) < 0 ∨ 24 ≤ Int32.toNatClampNeg (σ 46 0))) <| (if x1 = (5 : Int32) then (fX0_add_r_b68  (si (sa (sa σ 5 (Int32.toNatClampNeg (σ 46 0)) x1) 6 (Int32.toNatClampNeg (σ 46 0)) x2) 47 ((σ 47 0) + (1 : Int32)))) else (fX0_add_r_b68  (sa (sa σ 5 (Int32.toNatClampNeg (σ 46 0)) x1) 6 (Int32.toNatClampNeg (σ 46 0)) x2)))))) else (some ((0 : Int32), σ)))))))
abbrev rmX0_add_r : Room := { frames := 0, cells := 0, slots := 0, locals := 0 }
set_option maxHeartbeats 4000000 in
set_option maxRecDepth 100000 in
theorem KX0_add_r {l : Launch} {dC : Nat → ClassId} {dI : Nat → Nat → Nat} {cI cZ : ClassId} {a : Nat → Nat} {σ : St} {x1 : Int32} {x2 : Int32} {r : Int32} {σ2 : St} (hok : okA 30 a) (h : fX0_add_r σ x1 x2 = some (r, σ2)) (sz : Nat) : Met l yX0_add wsX0_add rmX0_add_r (Pz (dC, dI) cI cZ (wdC cI cZ a σ) sz [.ref (a 4), .int x1, .int x2]) (Qzi (dC, dI) 30 a (wdC cI cZ a σ2) sz r) 0 0 (aN 30 a sz) := by
  refine Met.ofW (cc := cX0_add) (maxL := 3) (ret := (some .boolean)) (by decide) rfl ?_
  intro p e s m args below meth c s₁ B hml hv
  obtain ⟨hav, hsz, hP, hKK⟩ := hv
  have hx := B.exec
  have hb := B.bytes
  have hr := B.returns
  have hts := atoms_spec (ws := wsX0_add) B.pre
  have hown : s.vm.findClass RX0 = some m.cls := findClass_of_methodNamed B.named
  have hlocks := B.notSynchronized
  have CF : CallFix p m c cX0_add 3 s args wsX0_add RX0 := ⟨hx, hb, hml, hown, hts⟩
  have hz : zz (dC, dI) 30 a (wdC cI cZ a σ) s.heap s.heap [] := ⟨hP, va_S.rf⟩
  have hl := lv_entry [.ref (a 4), .int x1, .int x2] (n := 3) (Nat.le_of_ble_eq_true rfl)
  have hen : entryFrame m args 3 = entryFrame m ([.ref (a 4), .int x1, .int x2] : List Value).toArray 3 := by rw [hav]
  rw [hen, lg_entry_eq]
  generalize (lg_sl [.ref (a 4), .int x1, .int x2] ++ List.replicate (3 - (lg_sl [.ref (a 4), .int x1, .int x2]).length) Slot.unset).toArray = ls at hl ⊢
  have hl : lv_has ls 3 [(0, .ref (a 4)), (1, .int x1), (2, .int x2)] := hl
  have eR : (headSpec wsX0_add rmX0_add_r).room = rmX0_add_r := rfl
  rw [eR]
  have rt : ∀ (v : Int32) (t : St) (pc : Nat) (H : Heap) (locs : List Loc) (ls : Array Slot), decode cX0_add pc = .ok (.ireturn, 1) → some (v, t) = some (r, σ2) → zz (dC, dI) 30 a (wdC cI cZ a t) s.heap H locs → (v = 0 ∨ v = 1) → W p l e rmX0_add_r s m args below meth c H locs 0 0 (MQ below (Qzi (dC, dI) 30 a (wdC cI cZ a σ2) sz r) args s 0 0 (aN 30 a sz)) (F0 m pc ls [.int v]) := by
    intro v t pc H locs ls hd h hz hv
    cases h
    exact zzret hsz hx hb hr hlocks hv hz hd
  generalize (MQ below (Qzi (dC, dI) 30 a (wdC cI cZ a σ2) sz r) args s 0 0 (aN 30 a sz)) = Q at rt ⊢
  have b68 : ∀  (σ : St) (H : Heap) (locs : List Loc) (ls : Array Slot), fX0_add_r_b68  σ = some (r, σ2) → zz (dC, dI) 30 a (wdC cI cZ a σ) s.heap H locs → lv_has ls 3 [(0, .ref (a 4))] → W p l e rmX0_add_r s m args below meth c H locs 0 0 Q (F0 m 68 ls []) := by
    intro  σ H locs ls h hz hl
    unfold fX0_add_r_b68 at h
    refine lv_aload_n hx hb dX0_add_68 rfl (lv_at hl 0 rfl) ?_
    refine lv_dup hx hb dX0_add_69 rfl ?_
    refine va_get (v := .int (σ 46 0)) hx hb hts inX0_add_X0 hown hKK.1 hz.1 4 rfl rfl 2 (by decide) (hts _ (List.mem_of_getElem? (i := 1) rfl)) (fun _ h9 => h9) rfl dX0_add_70 ?_
    refine lv_iconst (v := (1 : Int32)) hx hb dX0_add_73 (by decide) ?_
    refine lv_iadd hx hb dX0_add_74 ?_
    refine zput (ty := .int) (w' := wdC cI cZ a (si σ 46 ((σ 46 0) + (1 : Int32)))) hx hb hts inX0_add_X0 tyX0 tyX0_ok nmX0 hown hKK hok wkC hz 4 rfl rfl 2 (by decide) (hts _ (List.mem_of_getElem? (i := 1) rfl)) (fun _ h9 => h9) rfl rfl rfl rfl (Nat.le_of_ble_eq_true rfl) setCi_46 dX0_add_75 (fun H locs hz => ?_)
    refine lv_iconst (v := (1 : Int32)) hx hb dX0_add_78 (by decide) ?_
    exact rt (1 : Int32) (si σ 46 ((σ 46 0) + (1 : Int32))) 79 _ _ _ dX0_add_79 h hz (Or.inr rfl)
  unfold fX0_add_r at h
  refine lv_aload_n hx hb dX0_add_0 rfl (lv_at hl 0 rfl) ?_
  refine va_get (v := .int (σ 46 0)) hx hb hts inX0_add_X0 hown hKK.1 hz.1 4 rfl rfl 2 (by decide) (hts _ (List.mem_of_getElem? (i := 1) rfl)) (fun _ h9 => h9) rfl dX0_add_1 ?_
  refine lv_if_lt (tgt := 31) hx hb dX0_add_4 (by decide) (fun c1 => ?_) (fun c1 => ?_)
  · replace h := ite_t c1 h
    refine lv_iconst (v := (0 : Int32)) hx hb dX0_add_31 (by decide) ?_
    exact rt (0 : Int32) σ 32 _ _ _ dX0_add_32 h hz (Or.inl rfl)
  · replace h := ite_f c1 h
    refine lv_aload_n hx hb dX0_add_7 rfl (lv_at hl 0 rfl) ?_
    refine va_get (v := .int (σ 46 0)) hx hb hts inX0_add_X0 hown hKK.1 hz.1 4 rfl rfl 2 (by decide) (hts _ (List.mem_of_getElem? (i := 1) rfl)) (fun _ h9 => h9) rfl dX0_add_8 ?_
    refine lv_aload_n hx hb dX0_add_11 rfl (lv_at hl 0 rfl) ?_
    refine va_get (v := .ref (a 5)) hx hb hts inX0_add_X0 hown hKK.1 hz.1 4 rfl rfl 0 (by decide) (hts _ (List.mem_of_getElem? (i := 2) rfl)) (fun _ h9 => h9) rfl dX0_add_12 ?_
    refine va_alen (v := (24 : Int32)) hx hb hKK.1 hz.1 5 0 rfl rfl rfl dX0_add_15 ?_
    refine lv_icmp_ge (tgt := 31) hx hb dX0_add_16 (by decide) (fun c2 => ?_) (fun c2 => ?_)
    · replace h := ite_t c2 h
      refine lv_iconst (v := (0 : Int32)) hx hb dX0_add_31 (by decide) ?_
      exact rt (0 : Int32) σ 32 _ _ _ dX0_add_32 h hz (Or.inl rfl)
    · replace h := ite_f c2 h
      refine lv_aload_n hx hb dX0_add_19 rfl (lv_at hl 0 rfl) ?_
      refine va_get (v := .int (σ 46 0)) hx hb hts inX0_add_X0 hown hKK.1 hz.1 4 rfl rfl 2 (by decide) (hts _ (List.mem_of_getElem? (i := 1) rfl)) (fun _ h9 => h9) rfl dX0_add_20 ?_
      refine lv_aload_n hx hb dX0_add_23 rfl (lv_at hl 0 rfl) ?_
      refine va_get (v := .ref (a 6)) hx hb hts inX0_add_X0 hown hKK.1 hz.1 4 rfl rfl 1 (by decide) (hts _ (List.mem_of_getElem? (i := 3) rfl)) (fun _ h9 => h9) rfl dX0_add_24 ?_
      refine va_alen (v := (24 : Int32)) hx hb hKK.1 hz.1 6 0 rfl rfl rfl dX0_add_27 ?_
      refine lv_icmp_lt (tgt := 33) hx hb dX0_add_28 (by decide) (fun c3 => ?_) (fun c3 => ?_)
      · replace h := ite_t c3 h
        refine lv_aload_n hx hb dX0_add_33 rfl (lv_at hl 0 rfl) ?_
        refine va_get (v := .ref (a 5)) hx hb hts inX0_add_X0 hown hKK.1 hz.1 4 rfl rfl 0 (by decide) (hts _ (List.mem_of_getElem? (i := 2) rfl)) (fun _ h9 => h9) rfl dX0_add_34 ?_
        refine lv_aload_n hx hb dX0_add_37 rfl (lv_at hl 0 rfl) ?_
        refine va_get (v := .int (σ 46 0)) hx hb hts inX0_add_X0 hown hKK.1 hz.1 4 rfl rfl 2 (by decide) (hts _ (List.mem_of_getElem? (i := 1) rfl)) (fun _ h9 => h9) rfl dX0_add_38 ?_
        refine lv_iload_n hx hb dX0_add_41 rfl (lv_at hl 1 rfl) ?_
        obtain ⟨c4, h⟩ := ck_e h
        refine ziast (f := σ 5) (w' := wdC cI cZ a (sa σ 5 (Int32.toNatClampNeg (σ 46 0)) x1)) hx hb hKK hok wkC hz 5 rfl c4 setCa_5 dX0_add_42 (fun H locs hz => ?_)
        refine lv_aload_n hx hb dX0_add_43 rfl (lv_at hl 0 rfl) ?_
        refine va_get (v := .ref (a 6)) hx hb hts inX0_add_X0 hown hKK.1 hz.1 4 rfl rfl 1 (by decide) (hts _ (List.mem_of_getElem? (i := 3) rfl)) (fun _ h9 => h9) rfl dX0_add_44 ?_
        refine lv_aload_n hx hb dX0_add_47 rfl (lv_at hl 0 rfl) ?_
        refine va_get (v := .int (σ 46 0)) hx hb hts inX0_add_X0 hown hKK.1 hz.1 4 rfl rfl 2 (by decide) (hts _ (List.mem_of_getElem? (i := 1) rfl)) (fun _ h9 => h9) rfl dX0_add_48 ?_
        refine lv_iload_n hx hb dX0_add_51 rfl (lv_at hl 2 rfl) ?_
        obtain ⟨c5, h⟩ := ck_e h
        refine ziast (f := (sa σ 5 (Int32.toNatClampNeg (σ 46 0)) x1) 6) (w' := wdC cI cZ a (sa (sa σ 5 (Int32.toNatClampNeg (σ 46 0)) x1) 6 (Int32.toNatClampNeg (σ 46 0)) x2)) hx hb hKK hok wkC hz 6 rfl c5 setCa_6 dX0_add_52 (fun H locs hz => ?_)
        refine lv_iload_n hx hb dX0_add_53 rfl (lv_at hl 1 rfl) ?_
        refine lv_iconst (v := (5 : Int32)) hx hb dX0_add_54 (by decide) ?_
        refine lv_icmp_ne (tgt := 68) hx hb dX0_add_55 (by decide) (fun c6 => ?_) (fun c6 => ?_)
        · replace h := ite_f c6 h
          exact b68  (sa (sa σ 5 (Int32.toNatClampNeg (σ 46 0)) x1) 6 (Int32.toNatClampNeg (σ 46 0)) x2) _ _ _ h hz (lv_sub hl [0] rfl)
        · replace h := ite_t c6 h
          refine lv_aload_n hx hb dX0_add_58 rfl (lv_at hl 0 rfl) ?_
          refine lv_dup hx hb dX0_add_59 rfl ?_
          refine va_get (v := .int (σ 47 0)) hx hb hts inX0_add_X0 hown hKK.1 hz.1 4 rfl rfl 3 (by decide) (hts _ (List.mem_of_getElem? (i := 4) rfl)) (fun _ h9 => h9) rfl dX0_add_60 ?_
          refine lv_iconst (v := (1 : Int32)) hx hb dX0_add_63 (by decide) ?_
          refine lv_iadd hx hb dX0_add_64 ?_
          refine zput (ty := .int) (w' := wdC cI cZ a (si (sa (sa σ 5 (Int32.toNatClampNeg (σ 46 0)) x1) 6 (Int32.toNatClampNeg (σ 46 0)) x2) 47 ((σ 47 0) + (1 : Int32)))) hx hb hts inX0_add_X0 tyX0 tyX0_ok nmX0 hown hKK hok wkC hz 4 rfl rfl 3 (by decide) (hts _ (List.mem_of_getElem? (i := 4) rfl)) (fun _ h9 => h9) rfl rfl rfl rfl (Nat.le_of_ble_eq_true rfl) setCi_47 dX0_add_65 (fun H locs hz => ?_)
          exact b68  (si (sa (sa σ 5 (Int32.toNatClampNeg (σ 46 0)) x1) 6 (Int32.toNatClampNeg (σ 46 0)) x2) 47 ((σ 47 0) + (1 : Int32))) _ _ _ h hz (lv_sub hl [0] rfl)
      · replace h := ite_f c3 h
        refine lv_iconst (v := (0 : Int32)) hx hb dX0_add_31 (by decide) ?_
        exact rt (0 : Int32) σ 32 _ _ _ dX0_add_32 h hz (Or.inl rfl)
def fX0_add_p_b68  (σ : St) : Option (Int32 × St) :=
  some ((1 : Int32), (si σ 48 ((σ 48 0) + (1 : Int32))))
def fX0_add_p (σ : St) (x1 : Int32) (x2 : Int32) : Option (Int32 × St) :=
  (if (σ 48 0) < 0 then (some ((0 : Int32), σ)) else ((if (24 : Int32) ≤ (σ 48 0) then (some ((0 : Int32), σ)) else ((if (σ 48 0) < (24 : Int32) then ((ck (¬ ((σ 48 0) < 0 ∨ 24 ≤ Int32.toNatClampNeg (σ 48 0))) <| (ck (¬ ((σ 48 0) < 0 ∨ 24 ≤ Int32.toNatClampNeg (σ 48 0))) <| (if x1 = (5 : Int32) then (fX0_add_p_b68  (si (sa (sa σ 8 (Int32.toNatClampNeg (σ 48 0)) x1) 9 (Int32.toNatClampNeg (σ 48 0)) x2) 49 ((σ 49 0) + (1 : Int32)))) else (fX0_add_p_b68  (sa (sa σ 8 (Int32.toNatClampNeg (σ 48 0)) x1) 9 (Int32.toNatClampNeg (σ 48 0)) x2)))))) else (some ((0 : Int32), σ)))))))
abbrev rmX0_add_p : Room := { frames := 0, cells := 0, slots := 0, locals := 0 }
set_option maxHeartbeats 4000000 in
set_option maxRecDepth 100000 in
theorem KX0_add_p {l : Launch} {dC : Nat → ClassId} {dI : Nat → Nat → Nat} {cI cZ : ClassId} {a : Nat → Nat} {σ : St} {x1 : Int32} {x2 : Int32} {r : Int32} {σ2 : St} (hok : okA 30 a) (h : fX0_add_p σ x1 x2 = some (r, σ2)) (sz : Nat) : Met l yX0_add wsX0_add rmX0_add_p (Pz (dC, dI) cI cZ (wdC cI cZ a σ) sz [.ref (a 7), .int x1, .int x2]) (Qzi (dC, dI) 30 a (wdC cI cZ a σ2) sz r) 0 0 (aN 30 a sz) := by
  refine Met.ofW (cc := cX0_add) (maxL := 3) (ret := (some .boolean)) (by decide) rfl ?_
  intro p e s m args below meth c s₁ B hml hv
  obtain ⟨hav, hsz, hP, hKK⟩ := hv
  have hx := B.exec
  have hb := B.bytes
  have hr := B.returns
  have hts := atoms_spec (ws := wsX0_add) B.pre
  have hown : s.vm.findClass RX0 = some m.cls := findClass_of_methodNamed B.named
  have hlocks := B.notSynchronized
  have CF : CallFix p m c cX0_add 3 s args wsX0_add RX0 := ⟨hx, hb, hml, hown, hts⟩
  have hz : zz (dC, dI) 30 a (wdC cI cZ a σ) s.heap s.heap [] := ⟨hP, va_S.rf⟩
  have hl := lv_entry [.ref (a 7), .int x1, .int x2] (n := 3) (Nat.le_of_ble_eq_true rfl)
  have hen : entryFrame m args 3 = entryFrame m ([.ref (a 7), .int x1, .int x2] : List Value).toArray 3 := by rw [hav]
  rw [hen, lg_entry_eq]
  generalize (lg_sl [.ref (a 7), .int x1, .int x2] ++ List.replicate (3 - (lg_sl [.ref (a 7), .int x1, .int x2]).length) Slot.unset).toArray = ls at hl ⊢
  have hl : lv_has ls 3 [(0, .ref (a 7)), (1, .int x1), (2, .int x2)] := hl
  have eR : (headSpec wsX0_add rmX0_add_p).room = rmX0_add_p := rfl
  rw [eR]
  have rt : ∀ (v : Int32) (t : St) (pc : Nat) (H : Heap) (locs : List Loc) (ls : Array Slot), decode cX0_add pc = .ok (.ireturn, 1) → some (v, t) = some (r, σ2) → zz (dC, dI) 30 a (wdC cI cZ a t) s.heap H locs → (v = 0 ∨ v = 1) → W p l e rmX0_add_p s m args below meth c H locs 0 0 (MQ below (Qzi (dC, dI) 30 a (wdC cI cZ a σ2) sz r) args s 0 0 (aN 30 a sz)) (F0 m pc ls [.int v]) := by
    intro v t pc H locs ls hd h hz hv
    cases h
    exact zzret hsz hx hb hr hlocks hv hz hd
  generalize (MQ below (Qzi (dC, dI) 30 a (wdC cI cZ a σ2) sz r) args s 0 0 (aN 30 a sz)) = Q at rt ⊢
  have b68 : ∀  (σ : St) (H : Heap) (locs : List Loc) (ls : Array Slot), fX0_add_p_b68  σ = some (r, σ2) → zz (dC, dI) 30 a (wdC cI cZ a σ) s.heap H locs → lv_has ls 3 [(0, .ref (a 7))] → W p l e rmX0_add_p s m args below meth c H locs 0 0 Q (F0 m 68 ls []) := by
    intro  σ H locs ls h hz hl
    unfold fX0_add_p_b68 at h
    refine lv_aload_n hx hb dX0_add_68 rfl (lv_at hl 0 rfl) ?_
    refine lv_dup hx hb dX0_add_69 rfl ?_
    refine va_get (v := .int (σ 48 0)) hx hb hts inX0_add_X0 hown hKK.1 hz.1 7 rfl rfl 2 (by decide) (hts _ (List.mem_of_getElem? (i := 1) rfl)) (fun _ h9 => h9) rfl dX0_add_70 ?_
    refine lv_iconst (v := (1 : Int32)) hx hb dX0_add_73 (by decide) ?_
    refine lv_iadd hx hb dX0_add_74 ?_
    refine zput (ty := .int) (w' := wdC cI cZ a (si σ 48 ((σ 48 0) + (1 : Int32)))) hx hb hts inX0_add_X0 tyX0 tyX0_ok nmX0 hown hKK hok wkC hz 7 rfl rfl 2 (by decide) (hts _ (List.mem_of_getElem? (i := 1) rfl)) (fun _ h9 => h9) rfl rfl rfl rfl (Nat.le_of_ble_eq_true rfl) setCi_48 dX0_add_75 (fun H locs hz => ?_)
    refine lv_iconst (v := (1 : Int32)) hx hb dX0_add_78 (by decide) ?_
    exact rt (1 : Int32) (si σ 48 ((σ 48 0) + (1 : Int32))) 79 _ _ _ dX0_add_79 h hz (Or.inr rfl)
  unfold fX0_add_p at h
  refine lv_aload_n hx hb dX0_add_0 rfl (lv_at hl 0 rfl) ?_
  refine va_get (v := .int (σ 48 0)) hx hb hts inX0_add_X0 hown hKK.1 hz.1 7 rfl rfl 2 (by decide) (hts _ (List.mem_of_getElem? (i := 1) rfl)) (fun _ h9 => h9) rfl dX0_add_1 ?_
  refine lv_if_lt (tgt := 31) hx hb dX0_add_4 (by decide) (fun c1 => ?_) (fun c1 => ?_)
  · replace h := ite_t c1 h
    refine lv_iconst (v := (0 : Int32)) hx hb dX0_add_31 (by decide) ?_
    exact rt (0 : Int32) σ 32 _ _ _ dX0_add_32 h hz (Or.inl rfl)
  · replace h := ite_f c1 h
    refine lv_aload_n hx hb dX0_add_7 rfl (lv_at hl 0 rfl) ?_
    refine va_get (v := .int (σ 48 0)) hx hb hts inX0_add_X0 hown hKK.1 hz.1 7 rfl rfl 2 (by decide) (hts _ (List.mem_of_getElem? (i := 1) rfl)) (fun _ h9 => h9) rfl dX0_add_8 ?_
    refine lv_aload_n hx hb dX0_add_11 rfl (lv_at hl 0 rfl) ?_
    refine va_get (v := .ref (a 8)) hx hb hts inX0_add_X0 hown hKK.1 hz.1 7 rfl rfl 0 (by decide) (hts _ (List.mem_of_getElem? (i := 2) rfl)) (fun _ h9 => h9) rfl dX0_add_12 ?_
    refine va_alen (v := (24 : Int32)) hx hb hKK.1 hz.1 8 0 rfl rfl rfl dX0_add_15 ?_
    refine lv_icmp_ge (tgt := 31) hx hb dX0_add_16 (by decide) (fun c2 => ?_) (fun c2 => ?_)
    · replace h := ite_t c2 h
      refine lv_iconst (v := (0 : Int32)) hx hb dX0_add_31 (by decide) ?_
      exact rt (0 : Int32) σ 32 _ _ _ dX0_add_32 h hz (Or.inl rfl)
    · replace h := ite_f c2 h
      refine lv_aload_n hx hb dX0_add_19 rfl (lv_at hl 0 rfl) ?_
      refine va_get (v := .int (σ 48 0)) hx hb hts inX0_add_X0 hown hKK.1 hz.1 7 rfl rfl 2 (by decide) (hts _ (List.mem_of_getElem? (i := 1) rfl)) (fun _ h9 => h9) rfl dX0_add_20 ?_
      refine lv_aload_n hx hb dX0_add_23 rfl (lv_at hl 0 rfl) ?_
      refine va_get (v := .ref (a 9)) hx hb hts inX0_add_X0 hown hKK.1 hz.1 7 rfl rfl 1 (by decide) (hts _ (List.mem_of_getElem? (i := 3) rfl)) (fun _ h9 => h9) rfl dX0_add_24 ?_
      refine va_alen (v := (24 : Int32)) hx hb hKK.1 hz.1 9 0 rfl rfl rfl dX0_add_27 ?_
      refine lv_icmp_lt (tgt := 33) hx hb dX0_add_28 (by decide) (fun c3 => ?_) (fun c3 => ?_)
      · replace h := ite_t c3 h
        refine lv_aload_n hx hb dX0_add_33 rfl (lv_at hl 0 rfl) ?_
        refine va_get (v := .ref (a 8)) hx hb hts inX0_add_X0 hown hKK.1 hz.1 7 rfl rfl 0 (by decide) (hts _ (List.mem_of_getElem? (i := 2) rfl)) (fun _ h9 => h9) rfl dX0_add_34 ?_
        refine lv_aload_n hx hb dX0_add_37 rfl (lv_at hl 0 rfl) ?_
        refine va_get (v := .int (σ 48 0)) hx hb hts inX0_add_X0 hown hKK.1 hz.1 7 rfl rfl 2 (by decide) (hts _ (List.mem_of_getElem? (i := 1) rfl)) (fun _ h9 => h9) rfl dX0_add_38 ?_
        refine lv_iload_n hx hb dX0_add_41 rfl (lv_at hl 1 rfl) ?_
        obtain ⟨c4, h⟩ := ck_e h
        refine ziast (f := σ 8) (w' := wdC cI cZ a (sa σ 8 (Int32.toNatClampNeg (σ 48 0)) x1)) hx hb hKK hok wkC hz 8 rfl c4 setCa_8 dX0_add_42 (fun H locs hz => ?_)
        refine lv_aload_n hx hb dX0_add_43 rfl (lv_at hl 0 rfl) ?_
        refine va_get (v := .ref (a 9)) hx hb hts inX0_add_X0 hown hKK.1 hz.1 7 rfl rfl 1 (by decide) (hts _ (List.mem_of_getElem? (i := 3) rfl)) (fun _ h9 => h9) rfl dX0_add_44 ?_
        refine lv_aload_n hx hb dX0_add_47 rfl (lv_at hl 0 rfl) ?_
        refine va_get (v := .int (σ 48 0)) hx hb hts inX0_add_X0 hown hKK.1 hz.1 7 rfl rfl 2 (by decide) (hts _ (List.mem_of_getElem? (i := 1) rfl)) (fun _ h9 => h9) rfl dX0_add_48 ?_
        refine lv_iload_n hx hb dX0_add_51 rfl (lv_at hl 2 rfl) ?_
        obtain ⟨c5, h⟩ := ck_e h
        refine ziast (f := (sa σ 8 (Int32.toNatClampNeg (σ 48 0)) x1) 9) (w' := wdC cI cZ a (sa (sa σ 8 (Int32.toNatClampNeg (σ 48 0)) x1) 9 (Int32.toNatClampNeg (σ 48 0)) x2)) hx hb hKK hok wkC hz 9 rfl c5 setCa_9 dX0_add_52 (fun H locs hz => ?_)
        refine lv_iload_n hx hb dX0_add_53 rfl (lv_at hl 1 rfl) ?_
        refine lv_iconst (v := (5 : Int32)) hx hb dX0_add_54 (by decide) ?_
        refine lv_icmp_ne (tgt := 68) hx hb dX0_add_55 (by decide) (fun c6 => ?_) (fun c6 => ?_)
        · replace h := ite_f c6 h
          exact b68  (sa (sa σ 8 (Int32.toNatClampNeg (σ 48 0)) x1) 9 (Int32.toNatClampNeg (σ 48 0)) x2) _ _ _ h hz (lv_sub hl [0] rfl)
        · replace h := ite_t c6 h
          refine lv_aload_n hx hb dX0_add_58 rfl (lv_at hl 0 rfl) ?_
          refine lv_dup hx hb dX0_add_59 rfl ?_
          refine va_get (v := .int (σ 49 0)) hx hb hts inX0_add_X0 hown hKK.1 hz.1 7 rfl rfl 3 (by decide) (hts _ (List.mem_of_getElem? (i := 4) rfl)) (fun _ h9 => h9) rfl dX0_add_60 ?_
          refine lv_iconst (v := (1 : Int32)) hx hb dX0_add_63 (by decide) ?_
          refine lv_iadd hx hb dX0_add_64 ?_
          refine zput (ty := .int) (w' := wdC cI cZ a (si (sa (sa σ 8 (Int32.toNatClampNeg (σ 48 0)) x1) 9 (Int32.toNatClampNeg (σ 48 0)) x2) 49 ((σ 49 0) + (1 : Int32)))) hx hb hts inX0_add_X0 tyX0 tyX0_ok nmX0 hown hKK hok wkC hz 7 rfl rfl 3 (by decide) (hts _ (List.mem_of_getElem? (i := 4) rfl)) (fun _ h9 => h9) rfl rfl rfl rfl (Nat.le_of_ble_eq_true rfl) setCi_49 dX0_add_65 (fun H locs hz => ?_)
          exact b68  (si (sa (sa σ 8 (Int32.toNatClampNeg (σ 48 0)) x1) 9 (Int32.toNatClampNeg (σ 48 0)) x2) 49 ((σ 49 0) + (1 : Int32))) _ _ _ h hz (lv_sub hl [0] rfl)
      · replace h := ite_f c3 h
        refine lv_iconst (v := (0 : Int32)) hx hb dX0_add_31 (by decide) ?_
        exact rt (0 : Int32) σ 32 _ _ _ dX0_add_32 h hz (Or.inl rfl)
def fX0_size_r (σ : St)  : Option (Int32) :=
  some (σ 46 0)
abbrev rmX0_size_r : Room := { frames := 0, cells := 0, slots := 0, locals := 0 }
set_option maxHeartbeats 4000000 in
set_option maxRecDepth 100000 in
theorem KX0_size_r {l : Launch} {dC : Nat → ClassId} {dI : Nat → Nat → Nat} {cI cZ : ClassId} {a : Nat → Nat} {σ : St}  {r : Int32} (hok : okA 30 a) (h : fX0_size_r σ  = some r) (sz : Nat) : Met l yX0_size wsX0_size rmX0_size_r (Pz (dC, dI) cI cZ (wdC cI cZ a σ) sz [.ref (a 4)]) (Qzi (dC, dI) 30 a (wdC cI cZ a σ) sz r) 0 0 (aN 30 a sz) := by
  refine Met.ofW (cc := cX0_size) (maxL := 1) (ret := (some .int)) (by decide) rfl ?_
  intro p e s m args below meth c s₁ B hml hv
  obtain ⟨hav, hsz, hP, hKK⟩ := hv
  have hx := B.exec
  have hb := B.bytes
  have hr := B.returns
  have hts := atoms_spec (ws := wsX0_size) B.pre
  have hown : s.vm.findClass RX0 = some m.cls := findClass_of_methodNamed B.named
  have hlocks := B.notSynchronized
  have CF : CallFix p m c cX0_size 1 s args wsX0_size RX0 := ⟨hx, hb, hml, hown, hts⟩
  have hz : zz (dC, dI) 30 a (wdC cI cZ a σ) s.heap s.heap [] := ⟨hP, va_S.rf⟩
  have hl := lv_entry [.ref (a 4)] (n := 1) (Nat.le_of_ble_eq_true rfl)
  have hen : entryFrame m args 1 = entryFrame m ([.ref (a 4)] : List Value).toArray 1 := by rw [hav]
  rw [hen, lg_entry_eq]
  generalize (lg_sl [.ref (a 4)] ++ List.replicate (1 - (lg_sl [.ref (a 4)]).length) Slot.unset).toArray = ls at hl ⊢
  have hl : lv_has ls 1 [(0, .ref (a 4))] := hl
  have eR : (headSpec wsX0_size rmX0_size_r).room = rmX0_size_r := rfl
  rw [eR]
  have rt : ∀ (v : Int32) (t : St) (pc : Nat) (H : Heap) (locs : List Loc) (ls : Array Slot), decode cX0_size pc = .ok (.ireturn, 1) → some v = some r → zz (dC, dI) 30 a (wdC cI cZ a σ) s.heap H locs → W p l e rmX0_size_r s m args below meth c H locs 0 0 (MQ below (Qzi (dC, dI) 30 a (wdC cI cZ a σ) sz r) args s 0 0 (aN 30 a sz)) (F0 m pc ls [.int v]) := by
    intro v t pc H locs ls hd h hz
    cases h
    exact ziret hsz hx hb hr hlocks hz hd
  generalize (MQ below (Qzi (dC, dI) 30 a (wdC cI cZ a σ) sz r) args s 0 0 (aN 30 a sz)) = Q at rt ⊢
  unfold fX0_size_r at h
  refine lv_aload_n hx hb dX0_size_0 rfl (lv_at hl 0 rfl) ?_
  refine va_get (v := .int (σ 46 0)) hx hb hts inX0_size_X0 hown hKK.1 hz.1 4 rfl rfl 2 (by decide) (hts _ (List.mem_of_getElem? (i := 1) rfl)) (fun _ h9 => h9) rfl dX0_size_1 ?_
  exact rt (σ 46 0) σ 4 _ _ _ dX0_size_4 h hz
def fX0_size_p (σ : St)  : Option (Int32) :=
  some (σ 48 0)
abbrev rmX0_size_p : Room := { frames := 0, cells := 0, slots := 0, locals := 0 }
set_option maxHeartbeats 4000000 in
set_option maxRecDepth 100000 in
theorem KX0_size_p {l : Launch} {dC : Nat → ClassId} {dI : Nat → Nat → Nat} {cI cZ : ClassId} {a : Nat → Nat} {σ : St}  {r : Int32} (hok : okA 30 a) (h : fX0_size_p σ  = some r) (sz : Nat) : Met l yX0_size wsX0_size rmX0_size_p (Pz (dC, dI) cI cZ (wdC cI cZ a σ) sz [.ref (a 7)]) (Qzi (dC, dI) 30 a (wdC cI cZ a σ) sz r) 0 0 (aN 30 a sz) := by
  refine Met.ofW (cc := cX0_size) (maxL := 1) (ret := (some .int)) (by decide) rfl ?_
  intro p e s m args below meth c s₁ B hml hv
  obtain ⟨hav, hsz, hP, hKK⟩ := hv
  have hx := B.exec
  have hb := B.bytes
  have hr := B.returns
  have hts := atoms_spec (ws := wsX0_size) B.pre
  have hown : s.vm.findClass RX0 = some m.cls := findClass_of_methodNamed B.named
  have hlocks := B.notSynchronized
  have CF : CallFix p m c cX0_size 1 s args wsX0_size RX0 := ⟨hx, hb, hml, hown, hts⟩
  have hz : zz (dC, dI) 30 a (wdC cI cZ a σ) s.heap s.heap [] := ⟨hP, va_S.rf⟩
  have hl := lv_entry [.ref (a 7)] (n := 1) (Nat.le_of_ble_eq_true rfl)
  have hen : entryFrame m args 1 = entryFrame m ([.ref (a 7)] : List Value).toArray 1 := by rw [hav]
  rw [hen, lg_entry_eq]
  generalize (lg_sl [.ref (a 7)] ++ List.replicate (1 - (lg_sl [.ref (a 7)]).length) Slot.unset).toArray = ls at hl ⊢
  have hl : lv_has ls 1 [(0, .ref (a 7))] := hl
  have eR : (headSpec wsX0_size rmX0_size_p).room = rmX0_size_p := rfl
  rw [eR]
  have rt : ∀ (v : Int32) (t : St) (pc : Nat) (H : Heap) (locs : List Loc) (ls : Array Slot), decode cX0_size pc = .ok (.ireturn, 1) → some v = some r → zz (dC, dI) 30 a (wdC cI cZ a σ) s.heap H locs → W p l e rmX0_size_p s m args below meth c H locs 0 0 (MQ below (Qzi (dC, dI) 30 a (wdC cI cZ a σ) sz r) args s 0 0 (aN 30 a sz)) (F0 m pc ls [.int v]) := by
    intro v t pc H locs ls hd h hz
    cases h
    exact ziret hsz hx hb hr hlocks hz hd
  generalize (MQ below (Qzi (dC, dI) 30 a (wdC cI cZ a σ) sz r) args s 0 0 (aN 30 a sz)) = Q at rt ⊢
  unfold fX0_size_p at h
  refine lv_aload_n hx hb dX0_size_0 rfl (lv_at hl 0 rfl) ?_
  refine va_get (v := .int (σ 48 0)) hx hb hts inX0_size_X0 hown hKK.1 hz.1 7 rfl rfl 2 (by decide) (hts _ (List.mem_of_getElem? (i := 1) rfl)) (fun _ h9 => h9) rfl dX0_size_1 ?_
  exact rt (σ 48 0) σ 4 _ _ _ dX0_size_4 h hz
def fX0_has_r (σ : St) (x1 : Int32) : Option (Int32) :=
  (if x1 < 0 then (some (0 : Int32)) else ((if (σ 46 0) ≤ x1 then (some (0 : Int32)) else ((if (24 : Int32) ≤ x1 then (some (0 : Int32)) else ((if (24 : Int32) ≤ x1 then (some (0 : Int32)) else (some (1 : Int32)))))))))
abbrev rmX0_has_r : Room := { frames := 0, cells := 0, slots := 0, locals := 0 }
set_option maxHeartbeats 4000000 in
set_option maxRecDepth 100000 in
theorem KX0_has_r {l : Launch} {dC : Nat → ClassId} {dI : Nat → Nat → Nat} {cI cZ : ClassId} {a : Nat → Nat} {σ : St} {x1 : Int32} {r : Int32} (hok : okA 30 a) (h : fX0_has_r σ x1 = some r) (sz : Nat) : Met l yX0_has wsX0_has rmX0_has_r (Pz (dC, dI) cI cZ (wdC cI cZ a σ) sz [.ref (a 4), .int x1]) (Qzi (dC, dI) 30 a (wdC cI cZ a σ) sz r) 0 0 (aN 30 a sz) := by
  refine Met.ofW (cc := cX0_has) (maxL := 2) (ret := (some .boolean)) (by decide) rfl ?_
  intro p e s m args below meth c s₁ B hml hv
  obtain ⟨hav, hsz, hP, hKK⟩ := hv
  have hx := B.exec
  have hb := B.bytes
  have hr := B.returns
  have hts := atoms_spec (ws := wsX0_has) B.pre
  have hown : s.vm.findClass RX0 = some m.cls := findClass_of_methodNamed B.named
  have hlocks := B.notSynchronized
  have CF : CallFix p m c cX0_has 2 s args wsX0_has RX0 := ⟨hx, hb, hml, hown, hts⟩
  have hz : zz (dC, dI) 30 a (wdC cI cZ a σ) s.heap s.heap [] := ⟨hP, va_S.rf⟩
  have hl := lv_entry [.ref (a 4), .int x1] (n := 2) (Nat.le_of_ble_eq_true rfl)
  have hen : entryFrame m args 2 = entryFrame m ([.ref (a 4), .int x1] : List Value).toArray 2 := by rw [hav]
  rw [hen, lg_entry_eq]
  generalize (lg_sl [.ref (a 4), .int x1] ++ List.replicate (2 - (lg_sl [.ref (a 4), .int x1]).length) Slot.unset).toArray = ls at hl ⊢
  have hl : lv_has ls 2 [(0, .ref (a 4)), (1, .int x1)] := hl
  have eR : (headSpec wsX0_has rmX0_has_r).room = rmX0_has_r := rfl
  rw [eR]
  have rt : ∀ (v : Int32) (t : St) (pc : Nat) (H : Heap) (locs : List Loc) (ls : Array Slot), decode cX0_has pc = .ok (.ireturn, 1) → some v = some r → zz (dC, dI) 30 a (wdC cI cZ a σ) s.heap H locs → (v = 0 ∨ v = 1) → W p l e rmX0_has_r s m args below meth c H locs 0 0 (MQ below (Qzi (dC, dI) 30 a (wdC cI cZ a σ) sz r) args s 0 0 (aN 30 a sz)) (F0 m pc ls [.int v]) := by
    intro v t pc H locs ls hd h hz hv
    cases h
    exact zzret hsz hx hb hr hlocks hv hz hd
  generalize (MQ below (Qzi (dC, dI) 30 a (wdC cI cZ a σ) sz r) args s 0 0 (aN 30 a sz)) = Q at rt ⊢
  unfold fX0_has_r at h
  refine lv_iload_n hx hb dX0_has_0 rfl (lv_at hl 1 rfl) ?_
  refine lv_if_lt (tgt := 34) hx hb dX0_has_1 (by decide) (fun c1 => ?_) (fun c1 => ?_)
  · replace h := ite_t c1 h
    refine lv_iconst (v := (0 : Int32)) hx hb dX0_has_34 (by decide) ?_
    exact rt (0 : Int32) σ 35 _ _ _ dX0_has_35 h hz (Or.inl rfl)
  · replace h := ite_f c1 h
    refine lv_iload_n hx hb dX0_has_4 rfl (lv_at hl 1 rfl) ?_
    refine lv_aload_n hx hb dX0_has_5 rfl (lv_at hl 0 rfl) ?_
    refine va_get (v := .int (σ 46 0)) hx hb hts inX0_has_X0 hown hKK.1 hz.1 4 rfl rfl 2 (by decide) (hts _ (List.mem_of_getElem? (i := 1) rfl)) (fun _ h9 => h9) rfl dX0_has_6 ?_
    refine lv_icmp_ge (tgt := 34) hx hb dX0_has_9 (by decide) (fun c2 => ?_) (fun c2 => ?_)
    · replace h := ite_t c2 h
      refine lv_iconst (v := (0 : Int32)) hx hb dX0_has_34 (by decide) ?_
      exact rt (0 : Int32) σ 35 _ _ _ dX0_has_35 h hz (Or.inl rfl)
    · replace h := ite_f c2 h
      refine lv_iload_n hx hb dX0_has_12 rfl (lv_at hl 1 rfl) ?_
      refine lv_aload_n hx hb dX0_has_13 rfl (lv_at hl 0 rfl) ?_
      refine va_get (v := .ref (a 5)) hx hb hts inX0_has_X0 hown hKK.1 hz.1 4 rfl rfl 0 (by decide) (hts _ (List.mem_of_getElem? (i := 2) rfl)) (fun _ h9 => h9) rfl dX0_has_14 ?_
      refine va_alen (v := (24 : Int32)) hx hb hKK.1 hz.1 5 0 rfl rfl rfl dX0_has_17 ?_
      refine lv_icmp_ge (tgt := 34) hx hb dX0_has_18 (by decide) (fun c3 => ?_) (fun c3 => ?_)
      · replace h := ite_t c3 h
        refine lv_iconst (v := (0 : Int32)) hx hb dX0_has_34 (by decide) ?_
        exact rt (0 : Int32) σ 35 _ _ _ dX0_has_35 h hz (Or.inl rfl)
      · replace h := ite_f c3 h
        refine lv_iload_n hx hb dX0_has_21 rfl (lv_at hl 1 rfl) ?_
        refine lv_aload_n hx hb dX0_has_22 rfl (lv_at hl 0 rfl) ?_
        refine va_get (v := .ref (a 6)) hx hb hts inX0_has_X0 hown hKK.1 hz.1 4 rfl rfl 1 (by decide) (hts _ (List.mem_of_getElem? (i := 3) rfl)) (fun _ h9 => h9) rfl dX0_has_23 ?_
        refine va_alen (v := (24 : Int32)) hx hb hKK.1 hz.1 6 0 rfl rfl rfl dX0_has_26 ?_
        refine lv_icmp_ge (tgt := 34) hx hb dX0_has_27 (by decide) (fun c4 => ?_) (fun c4 => ?_)
        · replace h := ite_t c4 h
          refine lv_iconst (v := (0 : Int32)) hx hb dX0_has_34 (by decide) ?_
          exact rt (0 : Int32) σ 35 _ _ _ dX0_has_35 h hz (Or.inl rfl)
        · replace h := ite_f c4 h
          refine lv_iconst (v := (1 : Int32)) hx hb dX0_has_30 (by decide) ?_
          refine lv_goto (tgt := 35) hx hb dX0_has_31 (by decide) ?_
          exact rt (1 : Int32) σ 35 _ _ _ dX0_has_35 h hz (Or.inr rfl)
def fX0_has_p (σ : St) (x1 : Int32) : Option (Int32) :=
  (if x1 < 0 then (some (0 : Int32)) else ((if (σ 48 0) ≤ x1 then (some (0 : Int32)) else ((if (24 : Int32) ≤ x1 then (some (0 : Int32)) else ((if (24 : Int32) ≤ x1 then (some (0 : Int32)) else (some (1 : Int32)))))))))
abbrev rmX0_has_p : Room := { frames := 0, cells := 0, slots := 0, locals := 0 }
set_option maxHeartbeats 4000000 in
set_option maxRecDepth 100000 in
theorem KX0_has_p {l : Launch} {dC : Nat → ClassId} {dI : Nat → Nat → Nat} {cI cZ : ClassId} {a : Nat → Nat} {σ : St} {x1 : Int32} {r : Int32} (hok : okA 30 a) (h : fX0_has_p σ x1 = some r) (sz : Nat) : Met l yX0_has wsX0_has rmX0_has_p (Pz (dC, dI) cI cZ (wdC cI cZ a σ) sz [.ref (a 7), .int x1]) (Qzi (dC, dI) 30 a (wdC cI cZ a σ) sz r) 0 0 (aN 30 a sz) := by
  refine Met.ofW (cc := cX0_has) (maxL := 2) (ret := (some .boolean)) (by decide) rfl ?_
  intro p e s m args below meth c s₁ B hml hv
  obtain ⟨hav, hsz, hP, hKK⟩ := hv
  have hx := B.exec
  have hb := B.bytes
  have hr := B.returns
  have hts := atoms_spec (ws := wsX0_has) B.pre
  have hown : s.vm.findClass RX0 = some m.cls := findClass_of_methodNamed B.named
  have hlocks := B.notSynchronized
  have CF : CallFix p m c cX0_has 2 s args wsX0_has RX0 := ⟨hx, hb, hml, hown, hts⟩
  have hz : zz (dC, dI) 30 a (wdC cI cZ a σ) s.heap s.heap [] := ⟨hP, va_S.rf⟩
  have hl := lv_entry [.ref (a 7), .int x1] (n := 2) (Nat.le_of_ble_eq_true rfl)
  have hen : entryFrame m args 2 = entryFrame m ([.ref (a 7), .int x1] : List Value).toArray 2 := by rw [hav]
  rw [hen, lg_entry_eq]
  generalize (lg_sl [.ref (a 7), .int x1] ++ List.replicate (2 - (lg_sl [.ref (a 7), .int x1]).length) Slot.unset).toArray = ls at hl ⊢
  have hl : lv_has ls 2 [(0, .ref (a 7)), (1, .int x1)] := hl
  have eR : (headSpec wsX0_has rmX0_has_p).room = rmX0_has_p := rfl
  rw [eR]
  have rt : ∀ (v : Int32) (t : St) (pc : Nat) (H : Heap) (locs : List Loc) (ls : Array Slot), decode cX0_has pc = .ok (.ireturn, 1) → some v = some r → zz (dC, dI) 30 a (wdC cI cZ a σ) s.heap H locs → (v = 0 ∨ v = 1) → W p l e rmX0_has_p s m args below meth c H locs 0 0 (MQ below (Qzi (dC, dI) 30 a (wdC cI cZ a σ) sz r) args s 0 0 (aN 30 a sz)) (F0 m pc ls [.int v]) := by
    intro v t pc H locs ls hd h hz hv
    cases h
    exact zzret hsz hx hb hr hlocks hv hz hd
  generalize (MQ below (Qzi (dC, dI) 30 a (wdC cI cZ a σ) sz r) args s 0 0 (aN 30 a sz)) = Q at rt ⊢
  unfold fX0_has_p at h
  refine lv_iload_n hx hb dX0_has_0 rfl (lv_at hl 1 rfl) ?_
  refine lv_if_lt (tgt := 34) hx hb dX0_has_1 (by decide) (fun c1 => ?_) (fun c1 => ?_)
  · replace h := ite_t c1 h
    refine lv_iconst (v := (0 : Int32)) hx hb dX0_has_34 (by decide) ?_
    exact rt (0 : Int32) σ 35 _ _ _ dX0_has_35 h hz (Or.inl rfl)
  · replace h := ite_f c1 h
    refine lv_iload_n hx hb dX0_has_4 rfl (lv_at hl 1 rfl) ?_
    refine lv_aload_n hx hb dX0_has_5 rfl (lv_at hl 0 rfl) ?_
    refine va_get (v := .int (σ 48 0)) hx hb hts inX0_has_X0 hown hKK.1 hz.1 7 rfl rfl 2 (by decide) (hts _ (List.mem_of_getElem? (i := 1) rfl)) (fun _ h9 => h9) rfl dX0_has_6 ?_
    refine lv_icmp_ge (tgt := 34) hx hb dX0_has_9 (by decide) (fun c2 => ?_) (fun c2 => ?_)
    · replace h := ite_t c2 h
      refine lv_iconst (v := (0 : Int32)) hx hb dX0_has_34 (by decide) ?_
      exact rt (0 : Int32) σ 35 _ _ _ dX0_has_35 h hz (Or.inl rfl)
    · replace h := ite_f c2 h
      refine lv_iload_n hx hb dX0_has_12 rfl (lv_at hl 1 rfl) ?_
      refine lv_aload_n hx hb dX0_has_13 rfl (lv_at hl 0 rfl) ?_
      refine va_get (v := .ref (a 8)) hx hb hts inX0_has_X0 hown hKK.1 hz.1 7 rfl rfl 0 (by decide) (hts _ (List.mem_of_getElem? (i := 2) rfl)) (fun _ h9 => h9) rfl dX0_has_14 ?_
      refine va_alen (v := (24 : Int32)) hx hb hKK.1 hz.1 8 0 rfl rfl rfl dX0_has_17 ?_
      refine lv_icmp_ge (tgt := 34) hx hb dX0_has_18 (by decide) (fun c3 => ?_) (fun c3 => ?_)
      · replace h := ite_t c3 h
        refine lv_iconst (v := (0 : Int32)) hx hb dX0_has_34 (by decide) ?_
        exact rt (0 : Int32) σ 35 _ _ _ dX0_has_35 h hz (Or.inl rfl)
      · replace h := ite_f c3 h
        refine lv_iload_n hx hb dX0_has_21 rfl (lv_at hl 1 rfl) ?_
        refine lv_aload_n hx hb dX0_has_22 rfl (lv_at hl 0 rfl) ?_
        refine va_get (v := .ref (a 9)) hx hb hts inX0_has_X0 hown hKK.1 hz.1 7 rfl rfl 1 (by decide) (hts _ (List.mem_of_getElem? (i := 3) rfl)) (fun _ h9 => h9) rfl dX0_has_23 ?_
        refine va_alen (v := (24 : Int32)) hx hb hKK.1 hz.1 9 0 rfl rfl rfl dX0_has_26 ?_
        refine lv_icmp_ge (tgt := 34) hx hb dX0_has_27 (by decide) (fun c4 => ?_) (fun c4 => ?_)
        · replace h := ite_t c4 h
          refine lv_iconst (v := (0 : Int32)) hx hb dX0_has_34 (by decide) ?_
          exact rt (0 : Int32) σ 35 _ _ _ dX0_has_35 h hz (Or.inl rfl)
        · replace h := ite_f c4 h
          refine lv_iconst (v := (1 : Int32)) hx hb dX0_has_30 (by decide) ?_
          refine lv_goto (tgt := 35) hx hb dX0_has_31 (by decide) ?_
          exact rt (1 : Int32) σ 35 _ _ _ dX0_has_35 h hz (Or.inr rfl)
def fX0_kindOf_r (σ : St) (x1 : Int32) : Option (Int32) :=
  (bd1 (fX0_has_r σ x1) fun r1 => (if r1 = 0 then (some (-1 : Int32)) else ((ck (¬ (x1 < 0 ∨ 24 ≤ Int32.toNatClampNeg x1)) <| some ((σ 5) (Int32.toNatClampNeg x1))))))
abbrev rmX0_kindOf_r : Room := { frames := 1, cells := 0, slots := 0, locals := 21 }
set_option maxHeartbeats 4000000 in
set_option maxRecDepth 100000 in
theorem KX0_kindOf_r {l : Launch} {dC : Nat → ClassId} {dI : Nat → Nat → Nat} {cI cZ : ClassId} {a : Nat → Nat} {σ : St} {x1 : Int32} {r : Int32} (hok : okA 30 a) (h : fX0_kindOf_r σ x1 = some r) (sz : Nat) : Met l yX0_kindOf wsX0_kindOf rmX0_kindOf_r (Pz (dC, dI) cI cZ (wdC cI cZ a σ) sz [.ref (a 4), .int x1]) (Qzi (dC, dI) 30 a (wdC cI cZ a σ) sz r) 0 0 (aN 30 a sz) := by
  refine Met.ofW (cc := cX0_kindOf) (maxL := 2) (ret := (some .int)) (by decide) rfl ?_
  intro p e s m args below meth c s₁ B hml hv
  obtain ⟨hav, hsz, hP, hKK⟩ := hv
  have hx := B.exec
  have hb := B.bytes
  have hr := B.returns
  have hts := atoms_spec (ws := wsX0_kindOf) B.pre
  have hown : s.vm.findClass RX0 = some m.cls := findClass_of_methodNamed B.named
  have hlocks := B.notSynchronized
  have CF : CallFix p m c cX0_kindOf 2 s args wsX0_kindOf RX0 := ⟨hx, hb, hml, hown, hts⟩
  have hz : zz (dC, dI) 30 a (wdC cI cZ a σ) s.heap s.heap [] := ⟨hP, va_S.rf⟩
  have hl := lv_entry [.ref (a 4), .int x1] (n := 2) (Nat.le_of_ble_eq_true rfl)
  have hen : entryFrame m args 2 = entryFrame m ([.ref (a 4), .int x1] : List Value).toArray 2 := by rw [hav]
  rw [hen, lg_entry_eq]
  generalize (lg_sl [.ref (a 4), .int x1] ++ List.replicate (2 - (lg_sl [.ref (a 4), .int x1]).length) Slot.unset).toArray = ls at hl ⊢
  have hl : lv_has ls 2 [(0, .ref (a 4)), (1, .int x1)] := hl
  have eR : (headSpec wsX0_kindOf rmX0_kindOf_r).room = rmX0_kindOf_r := rfl
  rw [eR]
  have rt : ∀ (v : Int32) (t : St) (pc : Nat) (H : Heap) (locs : List Loc) (ls : Array Slot), decode cX0_kindOf pc = .ok (.ireturn, 1) → some v = some r → zz (dC, dI) 30 a (wdC cI cZ a σ) s.heap H locs → W p l e rmX0_kindOf_r s m args below meth c H locs 0 0 (MQ below (Qzi (dC, dI) 30 a (wdC cI cZ a σ) sz r) args s 0 0 (aN 30 a sz)) (F0 m pc ls [.int v]) := by
    intro v t pc H locs ls hd h hz
    cases h
    exact ziret hsz hx hb hr hlocks hz hd
  generalize (MQ below (Qzi (dC, dI) 30 a (wdC cI cZ a σ) sz r) args s 0 0 (aN 30 a sz)) = Q at rt ⊢
  unfold fX0_kindOf_r at h
  refine lv_aload_n hx hb dX0_kindOf_0 rfl (lv_at hl 0 rfl) ?_
  refine lv_iload_n hx hb dX0_kindOf_1 rfl (lv_at hl 1 rfl) ?_
  obtain ⟨r1, e3, h⟩ := bd1_e h
  refine zcallVi (As := [.int x1]) (rest := []) CF hKK (KX0_has_r (dC := dC) (dI := dI) (cI := cI) (cZ := cZ) (a := a) hok e3) (cwV 1 hts gX0_kindOf_X0_has rfl rfl rfl cdX0_has ⟨Nat.le_of_ble_eq_true rfl, Nat.le_of_ble_eq_true rfl⟩) 4 0 rfl rfl hz rfl hl.1 rfl (Nat.le_of_ble_eq_true rfl) dX0_kindOf_2 ⟨Nat.le_refl _, Nat.le_refl _⟩ (fun H locs hz => ?_)
  refine lv_if_eq (tgt := 17) hx hb dX0_kindOf_5 (by decide) (fun c4 => ?_) (fun c4 => ?_)
  · replace h := ite_t c4 h
    refine lv_iconst (v := (-1 : Int32)) hx hb dX0_kindOf_17 (by decide) ?_
    exact rt (-1 : Int32) σ 18 _ _ _ dX0_kindOf_18 h hz
  · replace h := ite_f c4 h
    refine lv_aload_n hx hb dX0_kindOf_8 rfl (lv_at hl 0 rfl) ?_
    refine va_get (v := .ref (a 5)) hx hb hts inX0_kindOf_X0 hown hKK.1 hz.1 4 rfl rfl 0 (by decide) (hts _ (List.mem_of_getElem? (i := 1) rfl)) (fun _ h9 => h9) rfl dX0_kindOf_9 ?_
    refine lv_iload_n hx hb dX0_kindOf_12 rfl (lv_at hl 1 rfl) ?_
    obtain ⟨c5, h⟩ := ck_e h
    refine va_iald (f := (σ 5)) hx hb hKK.1 hz.1 5 0 rfl rfl c5 dX0_kindOf_13 ?_
    refine lv_goto (tgt := 18) hx hb dX0_kindOf_14 (by decide) ?_
    exact rt ((σ 5) (Int32.toNatClampNeg x1)) σ 18 _ _ _ dX0_kindOf_18 h hz
def fX0_kindOf_p (σ : St) (x1 : Int32) : Option (Int32) :=
  (bd1 (fX0_has_p σ x1) fun r1 => (if r1 = 0 then (some (-1 : Int32)) else ((ck (¬ (x1 < 0 ∨ 24 ≤ Int32.toNatClampNeg x1)) <| some ((σ 8) (Int32.toNatClampNeg x1))))))
abbrev rmX0_kindOf_p : Room := { frames := 1, cells := 0, slots := 0, locals := 21 }
set_option maxHeartbeats 4000000 in
set_option maxRecDepth 100000 in
theorem KX0_kindOf_p {l : Launch} {dC : Nat → ClassId} {dI : Nat → Nat → Nat} {cI cZ : ClassId} {a : Nat → Nat} {σ : St} {x1 : Int32} {r : Int32} (hok : okA 30 a) (h : fX0_kindOf_p σ x1 = some r) (sz : Nat) : Met l yX0_kindOf wsX0_kindOf rmX0_kindOf_p (Pz (dC, dI) cI cZ (wdC cI cZ a σ) sz [.ref (a 7), .int x1]) (Qzi (dC, dI) 30 a (wdC cI cZ a σ) sz r) 0 0 (aN 30 a sz) := by
  refine Met.ofW (cc := cX0_kindOf) (maxL := 2) (ret := (some .int)) (by decide) rfl ?_
  intro p e s m args below meth c s₁ B hml hv
  obtain ⟨hav, hsz, hP, hKK⟩ := hv
  have hx := B.exec
  have hb := B.bytes
  have hr := B.returns
  have hts := atoms_spec (ws := wsX0_kindOf) B.pre
  have hown : s.vm.findClass RX0 = some m.cls := findClass_of_methodNamed B.named
  have hlocks := B.notSynchronized
  have CF : CallFix p m c cX0_kindOf 2 s args wsX0_kindOf RX0 := ⟨hx, hb, hml, hown, hts⟩
  have hz : zz (dC, dI) 30 a (wdC cI cZ a σ) s.heap s.heap [] := ⟨hP, va_S.rf⟩
  have hl := lv_entry [.ref (a 7), .int x1] (n := 2) (Nat.le_of_ble_eq_true rfl)
  have hen : entryFrame m args 2 = entryFrame m ([.ref (a 7), .int x1] : List Value).toArray 2 := by rw [hav]
  rw [hen, lg_entry_eq]
  generalize (lg_sl [.ref (a 7), .int x1] ++ List.replicate (2 - (lg_sl [.ref (a 7), .int x1]).length) Slot.unset).toArray = ls at hl ⊢
  have hl : lv_has ls 2 [(0, .ref (a 7)), (1, .int x1)] := hl
  have eR : (headSpec wsX0_kindOf rmX0_kindOf_p).room = rmX0_kindOf_p := rfl
  rw [eR]
  have rt : ∀ (v : Int32) (t : St) (pc : Nat) (H : Heap) (locs : List Loc) (ls : Array Slot), decode cX0_kindOf pc = .ok (.ireturn, 1) → some v = some r → zz (dC, dI) 30 a (wdC cI cZ a σ) s.heap H locs → W p l e rmX0_kindOf_p s m args below meth c H locs 0 0 (MQ below (Qzi (dC, dI) 30 a (wdC cI cZ a σ) sz r) args s 0 0 (aN 30 a sz)) (F0 m pc ls [.int v]) := by
    intro v t pc H locs ls hd h hz
    cases h
    exact ziret hsz hx hb hr hlocks hz hd
  generalize (MQ below (Qzi (dC, dI) 30 a (wdC cI cZ a σ) sz r) args s 0 0 (aN 30 a sz)) = Q at rt ⊢
  unfold fX0_kindOf_p at h
  refine lv_aload_n hx hb dX0_kindOf_0 rfl (lv_at hl 0 rfl) ?_
  refine lv_iload_n hx hb dX0_kindOf_1 rfl (lv_at hl 1 rfl) ?_
  obtain ⟨r1, e3, h⟩ := bd1_e h
  refine zcallVi (As := [.int x1]) (rest := []) CF hKK (KX0_has_p (dC := dC) (dI := dI) (cI := cI) (cZ := cZ) (a := a) hok e3) (cwV 1 hts gX0_kindOf_X0_has rfl rfl rfl cdX0_has ⟨Nat.le_of_ble_eq_true rfl, Nat.le_of_ble_eq_true rfl⟩) 7 0 rfl rfl hz rfl hl.1 rfl (Nat.le_of_ble_eq_true rfl) dX0_kindOf_2 ⟨Nat.le_refl _, Nat.le_refl _⟩ (fun H locs hz => ?_)
  refine lv_if_eq (tgt := 17) hx hb dX0_kindOf_5 (by decide) (fun c4 => ?_) (fun c4 => ?_)
  · replace h := ite_t c4 h
    refine lv_iconst (v := (-1 : Int32)) hx hb dX0_kindOf_17 (by decide) ?_
    exact rt (-1 : Int32) σ 18 _ _ _ dX0_kindOf_18 h hz
  · replace h := ite_f c4 h
    refine lv_aload_n hx hb dX0_kindOf_8 rfl (lv_at hl 0 rfl) ?_
    refine va_get (v := .ref (a 8)) hx hb hts inX0_kindOf_X0 hown hKK.1 hz.1 7 rfl rfl 0 (by decide) (hts _ (List.mem_of_getElem? (i := 1) rfl)) (fun _ h9 => h9) rfl dX0_kindOf_9 ?_
    refine lv_iload_n hx hb dX0_kindOf_12 rfl (lv_at hl 1 rfl) ?_
    obtain ⟨c5, h⟩ := ck_e h
    refine va_iald (f := (σ 8)) hx hb hKK.1 hz.1 8 0 rfl rfl c5 dX0_kindOf_13 ?_
    refine lv_goto (tgt := 18) hx hb dX0_kindOf_14 (by decide) ?_
    exact rt ((σ 8) (Int32.toNatClampNeg x1)) σ 18 _ _ _ dX0_kindOf_18 h hz
def fX0_toldOf_r (σ : St) (x1 : Int32) : Option (Int32) :=
  (bd1 (fX0_has_r σ x1) fun r1 => (if r1 = 0 then (some (-1 : Int32)) else ((ck (¬ (x1 < 0 ∨ 24 ≤ Int32.toNatClampNeg x1)) <| some ((σ 6) (Int32.toNatClampNeg x1))))))
abbrev rmX0_toldOf_r : Room := { frames := 1, cells := 0, slots := 0, locals := 21 }
set_option maxHeartbeats 4000000 in
set_option maxRecDepth 100000 in
theorem KX0_toldOf_r {l : Launch} {dC : Nat → ClassId} {dI : Nat → Nat → Nat} {cI cZ : ClassId} {a : Nat → Nat} {σ : St} {x1 : Int32} {r : Int32} (hok : okA 30 a) (h : fX0_toldOf_r σ x1 = some r) (sz : Nat) : Met l yX0_toldOf wsX0_toldOf rmX0_toldOf_r (Pz (dC, dI) cI cZ (wdC cI cZ a σ) sz [.ref (a 4), .int x1]) (Qzi (dC, dI) 30 a (wdC cI cZ a σ) sz r) 0 0 (aN 30 a sz) := by
  refine Met.ofW (cc := cX0_toldOf) (maxL := 2) (ret := (some .int)) (by decide) rfl ?_
  intro p e s m args below meth c s₁ B hml hv
  obtain ⟨hav, hsz, hP, hKK⟩ := hv
  have hx := B.exec
  have hb := B.bytes
  have hr := B.returns
  have hts := atoms_spec (ws := wsX0_toldOf) B.pre
  have hown : s.vm.findClass RX0 = some m.cls := findClass_of_methodNamed B.named
  have hlocks := B.notSynchronized
  have CF : CallFix p m c cX0_toldOf 2 s args wsX0_toldOf RX0 := ⟨hx, hb, hml, hown, hts⟩
  have hz : zz (dC, dI) 30 a (wdC cI cZ a σ) s.heap s.heap [] := ⟨hP, va_S.rf⟩
  have hl := lv_entry [.ref (a 4), .int x1] (n := 2) (Nat.le_of_ble_eq_true rfl)
  have hen : entryFrame m args 2 = entryFrame m ([.ref (a 4), .int x1] : List Value).toArray 2 := by rw [hav]
  rw [hen, lg_entry_eq]
  generalize (lg_sl [.ref (a 4), .int x1] ++ List.replicate (2 - (lg_sl [.ref (a 4), .int x1]).length) Slot.unset).toArray = ls at hl ⊢
  have hl : lv_has ls 2 [(0, .ref (a 4)), (1, .int x1)] := hl
  have eR : (headSpec wsX0_toldOf rmX0_toldOf_r).room = rmX0_toldOf_r := rfl
  rw [eR]
  have rt : ∀ (v : Int32) (t : St) (pc : Nat) (H : Heap) (locs : List Loc) (ls : Array Slot), decode cX0_toldOf pc = .ok (.ireturn, 1) → some v = some r → zz (dC, dI) 30 a (wdC cI cZ a σ) s.heap H locs → W p l e rmX0_toldOf_r s m args below meth c H locs 0 0 (MQ below (Qzi (dC, dI) 30 a (wdC cI cZ a σ) sz r) args s 0 0 (aN 30 a sz)) (F0 m pc ls [.int v]) := by
    intro v t pc H locs ls hd h hz
    cases h
    exact ziret hsz hx hb hr hlocks hz hd
  generalize (MQ below (Qzi (dC, dI) 30 a (wdC cI cZ a σ) sz r) args s 0 0 (aN 30 a sz)) = Q at rt ⊢
  unfold fX0_toldOf_r at h
  refine lv_aload_n hx hb dX0_toldOf_0 rfl (lv_at hl 0 rfl) ?_
  refine lv_iload_n hx hb dX0_toldOf_1 rfl (lv_at hl 1 rfl) ?_
  obtain ⟨r1, e3, h⟩ := bd1_e h
  refine zcallVi (As := [.int x1]) (rest := []) CF hKK (KX0_has_r (dC := dC) (dI := dI) (cI := cI) (cZ := cZ) (a := a) hok e3) (cwV 1 hts gX0_toldOf_X0_has rfl rfl rfl cdX0_has ⟨Nat.le_of_ble_eq_true rfl, Nat.le_of_ble_eq_true rfl⟩) 4 0 rfl rfl hz rfl hl.1 rfl (Nat.le_of_ble_eq_true rfl) dX0_toldOf_2 ⟨Nat.le_refl _, Nat.le_refl _⟩ (fun H locs hz => ?_)
  refine lv_if_eq (tgt := 17) hx hb dX0_toldOf_5 (by decide) (fun c4 => ?_) (fun c4 => ?_)
  · replace h := ite_t c4 h
    refine lv_iconst (v := (-1 : Int32)) hx hb dX0_toldOf_17 (by decide) ?_
    exact rt (-1 : Int32) σ 18 _ _ _ dX0_toldOf_18 h hz
  · replace h := ite_f c4 h
    refine lv_aload_n hx hb dX0_toldOf_8 rfl (lv_at hl 0 rfl) ?_
    refine va_get (v := .ref (a 6)) hx hb hts inX0_toldOf_X0 hown hKK.1 hz.1 4 rfl rfl 1 (by decide) (hts _ (List.mem_of_getElem? (i := 1) rfl)) (fun _ h9 => h9) rfl dX0_toldOf_9 ?_
    refine lv_iload_n hx hb dX0_toldOf_12 rfl (lv_at hl 1 rfl) ?_
    obtain ⟨c5, h⟩ := ck_e h
    refine va_iald (f := (σ 6)) hx hb hKK.1 hz.1 6 0 rfl rfl c5 dX0_toldOf_13 ?_
    refine lv_goto (tgt := 18) hx hb dX0_toldOf_14 (by decide) ?_
    exact rt ((σ 6) (Int32.toNatClampNeg x1)) σ 18 _ _ _ dX0_toldOf_18 h hz
def fX0_toldOf_p (σ : St) (x1 : Int32) : Option (Int32) :=
  (bd1 (fX0_has_p σ x1) fun r1 => (if r1 = 0 then (some (-1 : Int32)) else ((ck (¬ (x1 < 0 ∨ 24 ≤ Int32.toNatClampNeg x1)) <| some ((σ 9) (Int32.toNatClampNeg x1))))))
abbrev rmX0_toldOf_p : Room := { frames := 1, cells := 0, slots := 0, locals := 21 }
set_option maxHeartbeats 4000000 in
set_option maxRecDepth 100000 in
theorem KX0_toldOf_p {l : Launch} {dC : Nat → ClassId} {dI : Nat → Nat → Nat} {cI cZ : ClassId} {a : Nat → Nat} {σ : St} {x1 : Int32} {r : Int32} (hok : okA 30 a) (h : fX0_toldOf_p σ x1 = some r) (sz : Nat) : Met l yX0_toldOf wsX0_toldOf rmX0_toldOf_p (Pz (dC, dI) cI cZ (wdC cI cZ a σ) sz [.ref (a 7), .int x1]) (Qzi (dC, dI) 30 a (wdC cI cZ a σ) sz r) 0 0 (aN 30 a sz) := by
  refine Met.ofW (cc := cX0_toldOf) (maxL := 2) (ret := (some .int)) (by decide) rfl ?_
  intro p e s m args below meth c s₁ B hml hv
  obtain ⟨hav, hsz, hP, hKK⟩ := hv
  have hx := B.exec
  have hb := B.bytes
  have hr := B.returns
  have hts := atoms_spec (ws := wsX0_toldOf) B.pre
  have hown : s.vm.findClass RX0 = some m.cls := findClass_of_methodNamed B.named
  have hlocks := B.notSynchronized
  have CF : CallFix p m c cX0_toldOf 2 s args wsX0_toldOf RX0 := ⟨hx, hb, hml, hown, hts⟩
  have hz : zz (dC, dI) 30 a (wdC cI cZ a σ) s.heap s.heap [] := ⟨hP, va_S.rf⟩
  have hl := lv_entry [.ref (a 7), .int x1] (n := 2) (Nat.le_of_ble_eq_true rfl)
  have hen : entryFrame m args 2 = entryFrame m ([.ref (a 7), .int x1] : List Value).toArray 2 := by rw [hav]
  rw [hen, lg_entry_eq]
  generalize (lg_sl [.ref (a 7), .int x1] ++ List.replicate (2 - (lg_sl [.ref (a 7), .int x1]).length) Slot.unset).toArray = ls at hl ⊢
  have hl : lv_has ls 2 [(0, .ref (a 7)), (1, .int x1)] := hl
  have eR : (headSpec wsX0_toldOf rmX0_toldOf_p).room = rmX0_toldOf_p := rfl
  rw [eR]
  have rt : ∀ (v : Int32) (t : St) (pc : Nat) (H : Heap) (locs : List Loc) (ls : Array Slot), decode cX0_toldOf pc = .ok (.ireturn, 1) → some v = some r → zz (dC, dI) 30 a (wdC cI cZ a σ) s.heap H locs → W p l e rmX0_toldOf_p s m args below meth c H locs 0 0 (MQ below (Qzi (dC, dI) 30 a (wdC cI cZ a σ) sz r) args s 0 0 (aN 30 a sz)) (F0 m pc ls [.int v]) := by
    intro v t pc H locs ls hd h hz
    cases h
    exact ziret hsz hx hb hr hlocks hz hd
  generalize (MQ below (Qzi (dC, dI) 30 a (wdC cI cZ a σ) sz r) args s 0 0 (aN 30 a sz)) = Q at rt ⊢
  unfold fX0_toldOf_p at h
  refine lv_aload_n hx hb dX0_toldOf_0 rfl (lv_at hl 0 rfl) ?_
  refine lv_iload_n hx hb dX0_toldOf_1 rfl (lv_at hl 1 rfl) ?_
  obtain ⟨r1, e3, h⟩ := bd1_e h
  refine zcallVi (As := [.int x1]) (rest := []) CF hKK (KX0_has_p (dC := dC) (dI := dI) (cI := cI) (cZ := cZ) (a := a) hok e3) (cwV 1 hts gX0_toldOf_X0_has rfl rfl rfl cdX0_has ⟨Nat.le_of_ble_eq_true rfl, Nat.le_of_ble_eq_true rfl⟩) 7 0 rfl rfl hz rfl hl.1 rfl (Nat.le_of_ble_eq_true rfl) dX0_toldOf_2 ⟨Nat.le_refl _, Nat.le_refl _⟩ (fun H locs hz => ?_)
  refine lv_if_eq (tgt := 17) hx hb dX0_toldOf_5 (by decide) (fun c4 => ?_) (fun c4 => ?_)
  · replace h := ite_t c4 h
    refine lv_iconst (v := (-1 : Int32)) hx hb dX0_toldOf_17 (by decide) ?_
    exact rt (-1 : Int32) σ 18 _ _ _ dX0_toldOf_18 h hz
  · replace h := ite_f c4 h
    refine lv_aload_n hx hb dX0_toldOf_8 rfl (lv_at hl 0 rfl) ?_
    refine va_get (v := .ref (a 9)) hx hb hts inX0_toldOf_X0 hown hKK.1 hz.1 7 rfl rfl 1 (by decide) (hts _ (List.mem_of_getElem? (i := 1) rfl)) (fun _ h9 => h9) rfl dX0_toldOf_9 ?_
    refine lv_iload_n hx hb dX0_toldOf_12 rfl (lv_at hl 1 rfl) ?_
    obtain ⟨c5, h⟩ := ck_e h
    refine va_iald (f := (σ 9)) hx hb hKK.1 hz.1 9 0 rfl rfl c5 dX0_toldOf_13 ?_
    refine lv_goto (tgt := 18) hx hb dX0_toldOf_14 (by decide) ?_
    exact rt ((σ 9) (Int32.toNatClampNeg x1)) σ 18 _ _ _ dX0_toldOf_18 h hz
