def fX6_apart (σ : St) (x1 : Int32) (x2 : Int32) : Option (Int32) :=
  (if x2 ≤ x1 then (some (x1 - x2)) else (some (x2 - x1)))
abbrev rmX6_apart : Room := { frames := 0, cells := 0, slots := 0, locals := 0 }
set_option maxHeartbeats 4000000 in
set_option maxRecDepth 100000 in
theorem KX6_apart {l : Launch} {dC : Nat → ClassId} {dI : Nat → Nat → Nat} {cI cZ : ClassId} {a : Nat → Nat} {hh : Int64} {σ : St} {x1 : Int32} {x2 : Int32} {r : Int32} (hok : okA 18 a) (h : fX6_apart σ x1 x2 = some r) (sz : Nat) : Met l yX6_apart wsX6_apart rmX6_apart (Pz (dC, dI) cI cZ (wdM cI cZ a hh σ) sz [.int x1, .int x2]) (Qzi (dC, dI) 18 a (wdM cI cZ a hh σ) sz r) 0 0 (aN 18 a sz) := by
  refine Met.ofW (cc := cX6_apart) (maxL := 2) (ret := (some .int)) (by decide) rfl ?_
  intro p e s m args below meth c s₁ B hml hv
  obtain ⟨hav, hsz, hP, hKK⟩ := hv
  have hx := B.exec
  have hb := B.bytes
  have hr := B.returns
  have hts := atoms_spec (ws := wsX6_apart) B.pre
  have hown : s.vm.findClass RX6 = some m.cls := findClass_of_methodNamed B.named
  have hlocks := B.notSynchronized
  have CF : CallFix p m c cX6_apart 2 s args wsX6_apart RX6 := ⟨hx, hb, hml, hown, hts⟩
  have hz : zz (dC, dI) 18 a (wdM cI cZ a hh σ) s.heap s.heap [] := ⟨hP, va_S.rf⟩
  have hl := lv_entry [.int x1, .int x2] (n := 2) (Nat.le_of_ble_eq_true rfl)
  have hen : entryFrame m args 2 = entryFrame m ([.int x1, .int x2] : List Value).toArray 2 := by rw [hav]
  rw [hen, lg_entry_eq]
  generalize (lg_sl [.int x1, .int x2] ++ List.replicate (2 - (lg_sl [.int x1, .int x2]).length) Slot.unset).toArray = ls at hl ⊢
  have hl : lv_has ls 2 [(0, .int x1), (1, .int x2)] := hl
  have eR : (headSpec wsX6_apart rmX6_apart).room = rmX6_apart := rfl
  rw [eR]
  have rt : ∀ (v : Int32) (t : St) (pc : Nat) (H : Heap) (locs : List Loc) (ls : Array Slot), decode cX6_apart pc = .ok (.ireturn, 1) → some v = some r → zz (dC, dI) 18 a (wdM cI cZ a hh σ) s.heap H locs → W p l e rmX6_apart s m args below meth c H locs 0 0 (MQ below (Qzi (dC, dI) 18 a (wdM cI cZ a hh σ) sz r) args s 0 0 (aN 18 a sz)) (F0 m pc ls [.int v]) := by
    intro v t pc H locs ls hd h hz
    cases h
    exact ziret hsz hx hb hr hlocks hz hd
  generalize (MQ below (Qzi (dC, dI) 18 a (wdM cI cZ a hh σ) sz r) args s 0 0 (aN 18 a sz)) = Q at rt ⊢
  unfold fX6_apart at h
  refine lv_iload_n hx hb dX6_apart_0 rfl (lv_at hl 0 rfl) ?_
  refine lv_iload_n hx hb dX6_apart_1 rfl (lv_at hl 1 rfl) ?_
  refine lv_icmp_ge (tgt := 11) hx hb dX6_apart_2 (by decide) (fun c1 => ?_) (fun c1 => ?_)
  · replace h := ite_t c1 h
    refine lv_iload_n hx hb dX6_apart_11 rfl (lv_at hl 0 rfl) ?_
    refine lv_iload_n hx hb dX6_apart_12 rfl (lv_at hl 1 rfl) ?_
    refine lv_isub hx hb dX6_apart_13 ?_
    exact rt (x1 - x2) σ 14 _ _ _ dX6_apart_14 h hz
  · replace h := ite_f c1 h
    refine lv_iload_n hx hb dX6_apart_5 rfl (lv_at hl 1 rfl) ?_
    refine lv_iload_n hx hb dX6_apart_6 rfl (lv_at hl 0 rfl) ?_
    refine lv_isub hx hb dX6_apart_7 ?_
    refine lv_goto (tgt := 14) hx hb dX6_apart_8 (by decide) ?_
    exact rt (x2 - x1) σ 14 _ _ _ dX6_apart_14 h hz
def fX6_reachesLabel (σ : St) (x1 : Int32) (x2 : Int32) : Option (Int32) :=
  (ck (¬ (x2 < 0 ∨ 8 ≤ Int32.toNatClampNeg x2)) <| (bd1 (fX6_apart σ x1 ((σ 17) (Int32.toNatClampNeg x2))) fun r2 => (if ((σ 4) (Int32.toNatClampNeg (1 : Int32))) < r2 then (some (0 : Int32)) else (some (1 : Int32)))))
abbrev rmX6_reachesLabel : Room := { frames := 1, cells := 0, slots := 0, locals := 21 }
set_option maxHeartbeats 4000000 in
set_option maxRecDepth 100000 in
theorem KX6_reachesLabel {l : Launch} {dC : Nat → ClassId} {dI : Nat → Nat → Nat} {cI cZ : ClassId} {a : Nat → Nat} {hh : Int64} {σ : St} {x1 : Int32} {x2 : Int32} {r : Int32} (hok : okA 18 a) (h : fX6_reachesLabel σ x1 x2 = some r) (sz : Nat) : Met l yX6_reachesLabel wsX6_reachesLabel rmX6_reachesLabel (Pz (dC, dI) cI cZ (wdM cI cZ a hh σ) sz [.ref (a 0), .int x1, .int x2]) (Qzi (dC, dI) 18 a (wdM cI cZ a hh σ) sz r) 0 0 (aN 18 a sz) := by
  refine Met.ofW (cc := cX6_reachesLabel) (maxL := 3) (ret := (some .boolean)) (by decide) rfl ?_
  intro p e s m args below meth c s₁ B hml hv
  obtain ⟨hav, hsz, hP, hKK⟩ := hv
  have hx := B.exec
  have hb := B.bytes
  have hr := B.returns
  have hts := atoms_spec (ws := wsX6_reachesLabel) B.pre
  have hown : s.vm.findClass RX6 = some m.cls := findClass_of_methodNamed B.named
  have hlocks := B.notSynchronized
  have CF : CallFix p m c cX6_reachesLabel 3 s args wsX6_reachesLabel RX6 := ⟨hx, hb, hml, hown, hts⟩
  have hz : zz (dC, dI) 18 a (wdM cI cZ a hh σ) s.heap s.heap [] := ⟨hP, va_S.rf⟩
  have hl := lv_entry [.ref (a 0), .int x1, .int x2] (n := 3) (Nat.le_of_ble_eq_true rfl)
  have hen : entryFrame m args 3 = entryFrame m ([.ref (a 0), .int x1, .int x2] : List Value).toArray 3 := by rw [hav]
  rw [hen, lg_entry_eq]
  generalize (lg_sl [.ref (a 0), .int x1, .int x2] ++ List.replicate (3 - (lg_sl [.ref (a 0), .int x1, .int x2]).length) Slot.unset).toArray = ls at hl ⊢
  have hl : lv_has ls 3 [(0, .ref (a 0)), (1, .int x1), (2, .int x2)] := hl
  have eR : (headSpec wsX6_reachesLabel rmX6_reachesLabel).room = rmX6_reachesLabel := rfl
  rw [eR]
  have rt : ∀ (v : Int32) (t : St) (pc : Nat) (H : Heap) (locs : List Loc) (ls : Array Slot), decode cX6_reachesLabel pc = .ok (.ireturn, 1) → some v = some r → zz (dC, dI) 18 a (wdM cI cZ a hh σ) s.heap H locs → (v = 0 ∨ v = 1) → W p l e rmX6_reachesLabel s m args below meth c H locs 0 0 (MQ below (Qzi (dC, dI) 18 a (wdM cI cZ a hh σ) sz r) args s 0 0 (aN 18 a sz)) (F0 m pc ls [.int v]) := by
    intro v t pc H locs ls hd h hz hv
    cases h
    exact zzret hsz hx hb hr hlocks hv hz hd
  generalize (MQ below (Qzi (dC, dI) 18 a (wdM cI cZ a hh σ) sz r) args s 0 0 (aN 18 a sz)) = Q at rt ⊢
  unfold fX6_reachesLabel at h
  refine lv_iload_n hx hb dX6_reachesLabel_0 rfl (lv_at hl 1 rfl) ?_
  refine lv_aload_n hx hb dX6_reachesLabel_1 rfl (lv_at hl 0 rfl) ?_
  refine va_get (v := .ref (a 17)) hx hb hts inX6_reachesLabel_X6 hown hKK.1 hz.1 0 rfl rfl 26 (by decide) (hts _ (List.mem_of_getElem? (i := 1) rfl)) (fun _ h9 => h9) rfl dX6_reachesLabel_2 ?_
  refine lv_iload_n hx hb dX6_reachesLabel_5 rfl (lv_at hl 2 rfl) ?_
  obtain ⟨c1, h⟩ := ck_e h
  refine va_iald (f := (σ 17)) hx hb hKK.1 hz.1 17 0 rfl rfl c1 dX6_reachesLabel_6 ?_
  obtain ⟨r2, e4, h⟩ := bd1_e h
  refine zcallSi (As := [.int x1, .int ((σ 17) (Int32.toNatClampNeg x2))]) (rest := []) CF hKK (KX6_apart (dC := dC) (dI := dI) (cI := cI) (cZ := cZ) (a := a) hok e4) (va_cwS 2 hts gX6_reachesLabel_X6_apart rfl rfl rfl cdX6_apart.2 ⟨Nat.le_of_ble_eq_true rfl, Nat.le_of_ble_eq_true rfl⟩) hz rfl hl.1 rfl (Nat.le_of_ble_eq_true rfl) dX6_reachesLabel_7 ⟨Nat.le_refl _, Nat.le_refl _⟩ (fun H locs hz => ?_)
  refine lv_aload_n hx hb dX6_reachesLabel_10 rfl (lv_at hl 0 rfl) ?_
  refine va_get (v := .ref (a 4)) hx hb hts inX6_reachesLabel_X6 hown hKK.1 hz.1 0 rfl rfl 7 (by decide) (hts _ (List.mem_of_getElem? (i := 2) rfl)) (fun _ h9 => h9) rfl dX6_reachesLabel_11 ?_
  refine lv_iconst (v := (1 : Int32)) hx hb dX6_reachesLabel_14 (by decide) ?_
  refine va_iald (f := (σ 4)) hx hb hKK.1 hz.1 4 0 rfl rfl (by decide : vp_inD (1 : Int32) 3) dX6_reachesLabel_15 ?_
  refine lv_icmp_gt (tgt := 23) hx hb dX6_reachesLabel_16 (by decide) (fun c5 => ?_) (fun c5 => ?_)
  · replace h := ite_t c5 h
    refine lv_iconst (v := (0 : Int32)) hx hb dX6_reachesLabel_23 (by decide) ?_
    exact rt (0 : Int32) σ 24 _ _ _ dX6_reachesLabel_24 h hz (Or.inl rfl)
  · replace h := ite_f c5 h
    refine lv_iconst (v := (1 : Int32)) hx hb dX6_reachesLabel_19 (by decide) ?_
    refine lv_goto (tgt := 24) hx hb dX6_reachesLabel_20 (by decide) ?_
    exact rt (1 : Int32) σ 24 _ _ _ dX6_reachesLabel_24 h hz (Or.inr rfl)
def fX6_islandFor_b135 (σ : St) (k5 : Int32 → Int32 → Int32 → Int32 → Option (Int32)) (y1 : Int32) (y2 : Int32) (y4 : Int32) : Option (Int32) :=
  k5 y1 y2 y4 (y4 + (1 : Int32))
def fX6_islandFor_b103 (σ : St) (k5 : Int32 → Int32 → Int32 → Int32 → Option (Int32)) (y1 : Int32) (y2 : Int32) (y3 : Int32) (y4 : Int32) (y5 : Int32) (t0 : Int32) : Option (Int32) :=
  (if y5 < t0 then (fX6_islandFor_b135 σ k5 y1 y2 y4) else ((if y5 = t0 then ((ck (¬ (y4 < 0 ∨ 12 ≤ Int32.toNatClampNeg y4)) <| (ck (¬ (y3 < 0 ∨ 12 ≤ Int32.toNatClampNeg y3)) <| (if ((σ 13) (Int32.toNatClampNeg y3)) ≤ ((σ 13) (Int32.toNatClampNeg y4)) then (k5 y1 y2 y3 (y4 + (1 : Int32))) else (fX6_islandFor_b135 σ k5 y1 y2 y4))))) else (k5 y1 y2 y3 (y4 + (1 : Int32))))))
def fX6_islandFor_s5 (σ : St) (k5 : Int32 → Int32 → Int32 → Int32 → Option (Int32)) (y1 : Int32) (y2 : Int32) (y3 : Int32) (y4 : Int32) : Option (Int32) :=
  (if (σ 48 0) ≤ y4 then (some y3) else ((ck (¬ (y4 < 0 ∨ 12 ≤ Int32.toNatClampNeg y4)) <| (ck (¬ (y2 < 0 ∨ 8 ≤ Int32.toNatClampNeg y2)) <| (bd1 (fX6_apart σ ((σ 13) (Int32.toNatClampNeg y4)) ((σ 17) (Int32.toNatClampNeg y2))) fun r4 => (ck (¬ (y4 < 0 ∨ 12 ≤ Int32.toNatClampNeg y4)) <| (if ((σ 8) (Int32.toNatClampNeg y4)) = y2 then ((ck (¬ (y4 < 0 ∨ 12 ≤ Int32.toNatClampNeg y4)) <| (bd1 (fX6_apart σ ((σ 13) (Int32.toNatClampNeg y4)) y1) fun r10 => (if ((σ 4) (Int32.toNatClampNeg (1 : Int32))) < r10 then (k5 y1 y2 y3 (y4 + (1 : Int32))) else ((ck (¬ (y2 < 0 ∨ 8 ≤ Int32.toNatClampNeg y2)) <| (bd1 (fX6_apart σ y1 ((σ 17) (Int32.toNatClampNeg y2))) fun r15 => (if r15 ≤ r4 then (k5 y1 y2 y3 (y4 + (1 : Int32))) else ((if y3 = (-1 : Int32) then (fX6_islandFor_b103 σ k5 y1 y2 y3 y4 r4 (1048576 : Int32)) else ((ck (¬ (y3 < 0 ∨ 12 ≤ Int32.toNatClampNeg y3)) <| (ck (¬ (y2 < 0 ∨ 8 ≤ Int32.toNatClampNeg y2)) <| (bd1 (fX6_apart σ ((σ 13) (Int32.toNatClampNeg y3)) ((σ 17) (Int32.toNatClampNeg y2))) fun r22 => fX6_islandFor_b103 σ k5 y1 y2 y3 y4 r4 r22)))))))))))))) else (k5 y1 y2 y3 (y4 + (1 : Int32))))))))))
def fX6_islandFor_l5 (σ : St)  : Nat → Int32 → Int32 → Int32 → Int32 → Option (Int32) :=
  itr (fX6_islandFor_s5 σ ) (fun _ _ _ _ => none)
def fX6_islandFor (σ : St) (x1 : Int32) (x2 : Int32) : Option (Int32) :=
  fX6_islandFor_l5 σ  FU x1 x2 (-1 : Int32) (0 : Int32)
abbrev rmX6_islandFor : Room := { frames := 1, cells := 0, slots := 0, locals := 21 }
set_option maxHeartbeats 4000000 in
set_option maxRecDepth 100000 in
theorem KX6_islandFor {l : Launch} {dC : Nat → ClassId} {dI : Nat → Nat → Nat} {cI cZ : ClassId} {a : Nat → Nat} {hh : Int64} {σ : St} {x1 : Int32} {x2 : Int32} {r : Int32} (hok : okA 18 a) (h : fX6_islandFor σ x1 x2 = some r) (sz : Nat) : Met l yX6_islandFor wsX6_islandFor rmX6_islandFor (Pz (dC, dI) cI cZ (wdM cI cZ a hh σ) sz [.ref (a 0), .int x1, .int x2]) (Qzi (dC, dI) 18 a (wdM cI cZ a hh σ) sz r) 0 0 (aN 18 a sz) := by
  refine Met.ofW (cc := cX6_islandFor) (maxL := 7) (ret := (some .int)) (by decide) rfl ?_
  intro p e s m args below meth c s₁ B hml hv
  obtain ⟨hav, hsz, hP, hKK⟩ := hv
  have hx := B.exec
  have hb := B.bytes
  have hr := B.returns
  have hts := atoms_spec (ws := wsX6_islandFor) B.pre
  have hown : s.vm.findClass RX6 = some m.cls := findClass_of_methodNamed B.named
  have hlocks := B.notSynchronized
  have CF : CallFix p m c cX6_islandFor 7 s args wsX6_islandFor RX6 := ⟨hx, hb, hml, hown, hts⟩
  have hz : zz (dC, dI) 18 a (wdM cI cZ a hh σ) s.heap s.heap [] := ⟨hP, va_S.rf⟩
  have hl := lv_entry [.ref (a 0), .int x1, .int x2] (n := 7) (Nat.le_of_ble_eq_true rfl)
  have hen : entryFrame m args 7 = entryFrame m ([.ref (a 0), .int x1, .int x2] : List Value).toArray 7 := by rw [hav]
  rw [hen, lg_entry_eq]
  generalize (lg_sl [.ref (a 0), .int x1, .int x2] ++ List.replicate (7 - (lg_sl [.ref (a 0), .int x1, .int x2]).length) Slot.unset).toArray = ls at hl ⊢
  have hl : lv_has ls 7 [(0, .ref (a 0)), (1, .int x1), (2, .int x2)] := hl
  have eR : (headSpec wsX6_islandFor rmX6_islandFor).room = rmX6_islandFor := rfl
  rw [eR]
  have rt : ∀ (v : Int32) (t : St) (pc : Nat) (H : Heap) (locs : List Loc) (ls : Array Slot), decode cX6_islandFor pc = .ok (.ireturn, 1) → some v = some r → zz (dC, dI) 18 a (wdM cI cZ a hh σ) s.heap H locs → W p l e rmX6_islandFor s m args below meth c H locs 0 0 (MQ below (Qzi (dC, dI) 18 a (wdM cI cZ a hh σ) sz r) args s 0 0 (aN 18 a sz)) (F0 m pc ls [.int v]) := by
    intro v t pc H locs ls hd h hz
    cases h
    exact ziret hsz hx hb hr hlocks hz hd
  generalize (MQ below (Qzi (dC, dI) 18 a (wdM cI cZ a hh σ) sz r) args s 0 0 (aN 18 a sz)) = Q at rt ⊢
  have b135 : ∀ (k5 : Int32 → Int32 → Int32 → Int32 → Option (Int32)) (hk5 : (∀ (y1 : Int32) (y2 : Int32) (y3 : Int32) (y4 : Int32) (H : Heap) (locs : List Loc) (ls : Array Slot), k5 y1 y2 y3 y4 = some r → zz (dC, dI) 18 a (wdM cI cZ a hh σ) s.heap H locs → lv_has ls 7 [(0, .ref (a 0)), (1, .int y1), (2, .int y2), (3, .int y3), (4, .int y4)] → W p l e rmX6_islandFor s m args below meth c H locs 0 0 Q (F0 m 5 ls []))) (y1 : Int32) (y2 : Int32) (y4 : Int32) (H : Heap) (locs : List Loc) (ls : Array Slot), fX6_islandFor_b135 σ k5 y1 y2 y4 = some r → zz (dC, dI) 18 a (wdM cI cZ a hh σ) s.heap H locs → lv_has ls 7 [(0, .ref (a 0)), (1, .int y1), (2, .int y2), (4, .int y4)] → W p l e rmX6_islandFor s m args below meth c H locs 0 0 Q (F0 m 135 ls []) := by
    intro k5 hk5 y1 y2 y4 H locs ls h hz hl
    unfold fX6_islandFor_b135 at h
    refine lv_iload hx hb dX6_islandFor_135 (lv_at hl 3 rfl) ?_
    refine lv_goto (tgt := 141) hx hb dX6_islandFor_137 (by decide) ?_
    refine lv_istore_n (lv' := [(3, .int y4), (0, .ref (a 0)), (1, .int y1), (2, .int y2), (4, .int y4)]) hx hb dX6_islandFor_141 rfl hl (by decide) rfl (fun ls hl => ?_)
    refine lv_iinc (v := (y4 + (1 : Int32))) (lv' := [(4, .int (y4 + (1 : Int32))), (3, .int y4), (0, .ref (a 0)), (1, .int y1), (2, .int y2)]) hx hb dX6_islandFor_142 hl (k := 4) rfl rfl (by decide) rfl (fun ls hl => ?_)
    refine lv_goto (tgt := 5) hx hb dX6_islandFor_145 (by decide) ?_
    exact hk5 y1 y2 y4 (y4 + (1 : Int32)) _ _ _ h hz (lv_sub hl [2, 3, 4, 1, 0] rfl)
  have b103 : ∀ (k5 : Int32 → Int32 → Int32 → Int32 → Option (Int32)) (hk5 : (∀ (y1 : Int32) (y2 : Int32) (y3 : Int32) (y4 : Int32) (H : Heap) (locs : List Loc) (ls : Array Slot), k5 y1 y2 y3 y4 = some r → zz (dC, dI) 18 a (wdM cI cZ a hh σ) s.heap H locs → lv_has ls 7 [(0, .ref (a 0)), (1, .int y1), (2, .int y2), (3, .int y3), (4, .int y4)] → W p l e rmX6_islandFor s m args below meth c H locs 0 0 Q (F0 m 5 ls []))) (y1 : Int32) (y2 : Int32) (y3 : Int32) (y4 : Int32) (y5 : Int32) (t0 : Int32) (H : Heap) (locs : List Loc) (ls : Array Slot), fX6_islandFor_b103 σ k5 y1 y2 y3 y4 y5 t0 = some r → zz (dC, dI) 18 a (wdM cI cZ a hh σ) s.heap H locs → lv_has ls 7 [(0, .ref (a 0)), (1, .int y1), (2, .int y2), (3, .int y3), (4, .int y4), (5, .int y5)] → W p l e rmX6_islandFor s m args below meth c H locs 0 0 Q (F0 m 103 ls [.int t0]) := by
    intro k5 hk5 y1 y2 y3 y4 y5 t0 H locs ls h hz hl
    unfold fX6_islandFor_b103 at h
    refine lv_istore (lv' := [(6, .int t0), (0, .ref (a 0)), (1, .int y1), (2, .int y2), (3, .int y3), (4, .int y4), (5, .int y5)]) hx hb dX6_islandFor_103 hl (by decide) rfl (fun ls hl => ?_)
    refine lv_iload hx hb dX6_islandFor_105 (lv_at hl 6 rfl) ?_
    refine lv_iload hx hb dX6_islandFor_107 (lv_at hl 0 rfl) ?_
    refine lv_icmp_lt (tgt := 135) hx hb dX6_islandFor_109 (by decide) (fun c25 => ?_) (fun c25 => ?_)
    · replace h := ite_t c25 h
      exact b135 k5 hk5 y1 y2 y4 _ _ _ h hz (lv_sub hl [1, 2, 3, 5] rfl)
    · replace h := ite_f c25 h
      refine lv_iload hx hb dX6_islandFor_112 (lv_at hl 6 rfl) ?_
      refine lv_iload hx hb dX6_islandFor_114 (lv_at hl 0 rfl) ?_
      refine lv_icmp_ne (tgt := 140) hx hb dX6_islandFor_116 (by decide) (fun c26 => ?_) (fun c26 => ?_)
      · replace h := ite_f c26 h
        refine lv_iload_n hx hb dX6_islandFor_140 rfl (lv_at hl 4 rfl) ?_
        refine lv_istore_n (lv' := [(3, .int y3), (6, .int t0), (0, .ref (a 0)), (1, .int y1), (2, .int y2), (4, .int y4), (5, .int y5)]) hx hb dX6_islandFor_141 rfl hl (by decide) rfl (fun ls hl => ?_)
        refine lv_iinc (v := (y4 + (1 : Int32))) (lv' := [(4, .int (y4 + (1 : Int32))), (3, .int y3), (6, .int t0), (0, .ref (a 0)), (1, .int y1), (2, .int y2), (5, .int y5)]) hx hb dX6_islandFor_142 hl (k := 5) rfl rfl (by decide) rfl (fun ls hl => ?_)
        refine lv_goto (tgt := 5) hx hb dX6_islandFor_145 (by decide) ?_
        exact hk5 y1 y2 y3 (y4 + (1 : Int32)) _ _ _ h hz (lv_sub hl [3, 4, 5, 1, 0] rfl)
      · replace h := ite_t c26 h
        refine lv_aload_n hx hb dX6_islandFor_119 rfl (lv_at hl 1 rfl) ?_
        refine va_get (v := .ref (a 13)) hx hb hts inX6_islandFor_X6 hown hKK.1 hz.1 0 rfl rfl 22 (by decide) (hts _ (List.mem_of_getElem? (i := 2) rfl)) (fun _ h9 => h9) rfl dX6_islandFor_120 ?_
        refine lv_iload hx hb dX6_islandFor_123 (lv_at hl 5 rfl) ?_
        obtain ⟨c27, h⟩ := ck_e h
        refine va_iald (f := (σ 13)) hx hb hKK.1 hz.1 13 0 rfl rfl c27 dX6_islandFor_125 ?_
        refine lv_aload_n hx hb dX6_islandFor_126 rfl (lv_at hl 1 rfl) ?_
        refine va_get (v := .ref (a 13)) hx hb hts inX6_islandFor_X6 hown hKK.1 hz.1 0 rfl rfl 22 (by decide) (hts _ (List.mem_of_getElem? (i := 2) rfl)) (fun _ h9 => h9) rfl dX6_islandFor_127 ?_
        refine lv_iload_n hx hb dX6_islandFor_130 rfl (lv_at hl 4 rfl) ?_
        obtain ⟨c28, h⟩ := ck_e h
        refine va_iald (f := (σ 13)) hx hb hKK.1 hz.1 13 0 rfl rfl c28 dX6_islandFor_131 ?_
        refine lv_icmp_ge (tgt := 140) hx hb dX6_islandFor_132 (by decide) (fun c29 => ?_) (fun c29 => ?_)
        · replace h := ite_t c29 h
          refine lv_iload_n hx hb dX6_islandFor_140 rfl (lv_at hl 4 rfl) ?_
          refine lv_istore_n (lv' := [(3, .int y3), (6, .int t0), (0, .ref (a 0)), (1, .int y1), (2, .int y2), (4, .int y4), (5, .int y5)]) hx hb dX6_islandFor_141 rfl hl (by decide) rfl (fun ls hl => ?_)
          refine lv_iinc (v := (y4 + (1 : Int32))) (lv' := [(4, .int (y4 + (1 : Int32))), (3, .int y3), (6, .int t0), (0, .ref (a 0)), (1, .int y1), (2, .int y2), (5, .int y5)]) hx hb dX6_islandFor_142 hl (k := 5) rfl rfl (by decide) rfl (fun ls hl => ?_)
          refine lv_goto (tgt := 5) hx hb dX6_islandFor_145 (by decide) ?_
          exact hk5 y1 y2 y3 (y4 + (1 : Int32)) _ _ _ h hz (lv_sub hl [3, 4, 5, 1, 0] rfl)
        · replace h := ite_f c29 h
          exact b135 k5 hk5 y1 y2 y4 _ _ _ h hz (lv_sub hl [1, 2, 3, 5] rfl)
  have s5 : ∀ (k5 : Int32 → Int32 → Int32 → Int32 → Option (Int32)) (hk5 : (∀ (y1 : Int32) (y2 : Int32) (y3 : Int32) (y4 : Int32) (H : Heap) (locs : List Loc) (ls : Array Slot), k5 y1 y2 y3 y4 = some r → zz (dC, dI) 18 a (wdM cI cZ a hh σ) s.heap H locs → lv_has ls 7 [(0, .ref (a 0)), (1, .int y1), (2, .int y2), (3, .int y3), (4, .int y4)] → W p l e rmX6_islandFor s m args below meth c H locs 0 0 Q (F0 m 5 ls []))) (y1 : Int32) (y2 : Int32) (y3 : Int32) (y4 : Int32) (H : Heap) (locs : List Loc) (ls : Array Slot), fX6_islandFor_s5 σ k5 y1 y2 y3 y4 = some r → zz (dC, dI) 18 a (wdM cI cZ a hh σ) s.heap H locs → lv_has ls 7 [(0, .ref (a 0)), (1, .int y1), (2, .int y2), (3, .int y3), (4, .int y4)] → W p l e rmX6_islandFor s m args below meth c H locs 0 0 Q (F0 m 5 ls []) := by
    intro k5 hk5 y1 y2 y3 y4 H locs ls h hz hl
    unfold fX6_islandFor_s5 at h
    refine lv_iload hx hb dX6_islandFor_5 (lv_at hl 4 rfl) ?_
    refine lv_aload_n hx hb dX6_islandFor_7 rfl (lv_at hl 0 rfl) ?_
    refine va_get (v := .int (σ 48 0)) hx hb hts inX6_islandFor_X6 hown hKK.1 hz.1 0 rfl rfl 15 (by decide) (hts _ (List.mem_of_getElem? (i := 1) rfl)) (fun _ h9 => h9) rfl dX6_islandFor_8 ?_
    refine lv_icmp_ge (tgt := 148) hx hb dX6_islandFor_11 (by decide) (fun c1 => ?_) (fun c1 => ?_)
    · replace h := ite_t c1 h
      refine lv_iload_n hx hb dX6_islandFor_148 rfl (lv_at hl 3 rfl) ?_
      exact rt y3 σ 149 _ _ _ dX6_islandFor_149 h hz
    · replace h := ite_f c1 h
      refine lv_aload_n hx hb dX6_islandFor_14 rfl (lv_at hl 0 rfl) ?_
      refine va_get (v := .ref (a 13)) hx hb hts inX6_islandFor_X6 hown hKK.1 hz.1 0 rfl rfl 22 (by decide) (hts _ (List.mem_of_getElem? (i := 2) rfl)) (fun _ h9 => h9) rfl dX6_islandFor_15 ?_
      refine lv_iload hx hb dX6_islandFor_18 (lv_at hl 4 rfl) ?_
      obtain ⟨c2, h⟩ := ck_e h
      refine va_iald (f := (σ 13)) hx hb hKK.1 hz.1 13 0 rfl rfl c2 dX6_islandFor_20 ?_
      refine lv_aload_n hx hb dX6_islandFor_21 rfl (lv_at hl 0 rfl) ?_
      refine va_get (v := .ref (a 17)) hx hb hts inX6_islandFor_X6 hown hKK.1 hz.1 0 rfl rfl 26 (by decide) (hts _ (List.mem_of_getElem? (i := 3) rfl)) (fun _ h9 => h9) rfl dX6_islandFor_22 ?_
      refine lv_iload_n hx hb dX6_islandFor_25 rfl (lv_at hl 2 rfl) ?_
      obtain ⟨c3, h⟩ := ck_e h
      refine va_iald (f := (σ 17)) hx hb hKK.1 hz.1 17 0 rfl rfl c3 dX6_islandFor_26 ?_
      obtain ⟨r4, e6, h⟩ := bd1_e h
      refine zcallSi (As := [.int ((σ 13) (Int32.toNatClampNeg y4)), .int ((σ 17) (Int32.toNatClampNeg y2))]) (rest := []) CF hKK (KX6_apart (dC := dC) (dI := dI) (cI := cI) (cZ := cZ) (a := a) hok e6) (va_cwS 2 hts gX6_islandFor_X6_apart rfl rfl rfl cdX6_apart.2 ⟨Nat.le_of_ble_eq_true rfl, Nat.le_of_ble_eq_true rfl⟩) hz rfl hl.1 rfl (Nat.le_of_ble_eq_true rfl) dX6_islandFor_27 ⟨Nat.le_refl _, Nat.le_refl _⟩ (fun H locs hz => ?_)
      refine lv_istore (lv' := [(5, .int r4), (0, .ref (a 0)), (1, .int y1), (2, .int y2), (3, .int y3), (4, .int y4)]) hx hb dX6_islandFor_30 hl (by decide) rfl (fun ls hl => ?_)
      refine lv_aload_n hx hb dX6_islandFor_32 rfl (lv_at hl 1 rfl) ?_
      refine va_get (v := .ref (a 8)) hx hb hts inX6_islandFor_X6 hown hKK.1 hz.1 0 rfl rfl 16 (by decide) (hts _ (List.mem_of_getElem? (i := 4) rfl)) (fun _ h9 => h9) rfl dX6_islandFor_33 ?_
      refine lv_iload hx hb dX6_islandFor_36 (lv_at hl 5 rfl) ?_
      obtain ⟨c7, h⟩ := ck_e h
      refine va_iald (f := (σ 8)) hx hb hKK.1 hz.1 8 0 rfl rfl c7 dX6_islandFor_38 ?_
      refine lv_iload_n hx hb dX6_islandFor_39 rfl (lv_at hl 3 rfl) ?_
      refine lv_icmp_ne (tgt := 142) hx hb dX6_islandFor_40 (by decide) (fun c8 => ?_) (fun c8 => ?_)
      · replace h := ite_f c8 h
        refine lv_iinc (v := (y4 + (1 : Int32))) (lv' := [(4, .int (y4 + (1 : Int32))), (5, .int r4), (0, .ref (a 0)), (1, .int y1), (2, .int y2), (3, .int y3)]) hx hb dX6_islandFor_142 hl (k := 5) rfl rfl (by decide) rfl (fun ls hl => ?_)
        refine lv_goto (tgt := 5) hx hb dX6_islandFor_145 (by decide) ?_
        exact hk5 y1 y2 y3 (y4 + (1 : Int32)) _ _ _ h hz (lv_sub hl [2, 3, 4, 5, 0] rfl)
      · replace h := ite_t c8 h
        refine lv_aload_n hx hb dX6_islandFor_43 rfl (lv_at hl 1 rfl) ?_
        refine va_get (v := .ref (a 13)) hx hb hts inX6_islandFor_X6 hown hKK.1 hz.1 0 rfl rfl 22 (by decide) (hts _ (List.mem_of_getElem? (i := 2) rfl)) (fun _ h9 => h9) rfl dX6_islandFor_44 ?_
        refine lv_iload hx hb dX6_islandFor_47 (lv_at hl 5 rfl) ?_
        obtain ⟨c9, h⟩ := ck_e h
        refine va_iald (f := (σ 13)) hx hb hKK.1 hz.1 13 0 rfl rfl c9 dX6_islandFor_49 ?_
        refine lv_iload_n hx hb dX6_islandFor_50 rfl (lv_at hl 2 rfl) ?_
        obtain ⟨r10, e12, h⟩ := bd1_e h
        refine zcallSi (As := [.int ((σ 13) (Int32.toNatClampNeg y4)), .int y1]) (rest := []) CF hKK (KX6_apart (dC := dC) (dI := dI) (cI := cI) (cZ := cZ) (a := a) hok e12) (va_cwS 2 hts gX6_islandFor_X6_apart rfl rfl rfl cdX6_apart.2 ⟨Nat.le_of_ble_eq_true rfl, Nat.le_of_ble_eq_true rfl⟩) hz rfl hl.1 rfl (Nat.le_of_ble_eq_true rfl) dX6_islandFor_51 ⟨Nat.le_refl _, Nat.le_refl _⟩ (fun H locs hz => ?_)
        refine lv_aload_n hx hb dX6_islandFor_54 rfl (lv_at hl 1 rfl) ?_
        refine va_get (v := .ref (a 4)) hx hb hts inX6_islandFor_X6 hown hKK.1 hz.1 0 rfl rfl 7 (by decide) (hts _ (List.mem_of_getElem? (i := 5) rfl)) (fun _ h9 => h9) rfl dX6_islandFor_55 ?_
        refine lv_iconst (v := (1 : Int32)) hx hb dX6_islandFor_58 (by decide) ?_
        refine va_iald (f := (σ 4)) hx hb hKK.1 hz.1 4 0 rfl rfl (by decide : vp_inD (1 : Int32) 3) dX6_islandFor_59 ?_
        refine lv_icmp_gt (tgt := 142) hx hb dX6_islandFor_60 (by decide) (fun c13 => ?_) (fun c13 => ?_)
        · replace h := ite_t c13 h
          refine lv_iinc (v := (y4 + (1 : Int32))) (lv' := [(4, .int (y4 + (1 : Int32))), (5, .int r4), (0, .ref (a 0)), (1, .int y1), (2, .int y2), (3, .int y3)]) hx hb dX6_islandFor_142 hl (k := 5) rfl rfl (by decide) rfl (fun ls hl => ?_)
          refine lv_goto (tgt := 5) hx hb dX6_islandFor_145 (by decide) ?_
          exact hk5 y1 y2 y3 (y4 + (1 : Int32)) _ _ _ h hz (lv_sub hl [2, 3, 4, 5, 0] rfl)
        · replace h := ite_f c13 h
          refine lv_iload hx hb dX6_islandFor_63 (lv_at hl 0 rfl) ?_
          refine lv_iload_n hx hb dX6_islandFor_65 rfl (lv_at hl 2 rfl) ?_
          refine lv_aload_n hx hb dX6_islandFor_66 rfl (lv_at hl 1 rfl) ?_
          refine va_get (v := .ref (a 17)) hx hb hts inX6_islandFor_X6 hown hKK.1 hz.1 0 rfl rfl 26 (by decide) (hts _ (List.mem_of_getElem? (i := 3) rfl)) (fun _ h9 => h9) rfl dX6_islandFor_67 ?_
          refine lv_iload_n hx hb dX6_islandFor_70 rfl (lv_at hl 3 rfl) ?_
          obtain ⟨c14, h⟩ := ck_e h
          refine va_iald (f := (σ 17)) hx hb hKK.1 hz.1 17 0 rfl rfl c14 dX6_islandFor_71 ?_
          obtain ⟨r15, e17, h⟩ := bd1_e h
          refine zcallSi (As := [.int y1, .int ((σ 17) (Int32.toNatClampNeg y2))]) (rest := [.int r4]) CF hKK (KX6_apart (dC := dC) (dI := dI) (cI := cI) (cZ := cZ) (a := a) hok e17) (va_cwS 2 hts gX6_islandFor_X6_apart rfl rfl rfl cdX6_apart.2 ⟨Nat.le_of_ble_eq_true rfl, Nat.le_of_ble_eq_true rfl⟩) hz rfl hl.1 rfl (Nat.le_of_ble_eq_true rfl) dX6_islandFor_72 ⟨Nat.le_refl _, Nat.le_refl _⟩ (fun H locs hz => ?_)
          refine lv_icmp_ge (tgt := 142) hx hb dX6_islandFor_75 (by decide) (fun c18 => ?_) (fun c18 => ?_)
          · replace h := ite_t c18 h
            refine lv_iinc (v := (y4 + (1 : Int32))) (lv' := [(4, .int (y4 + (1 : Int32))), (5, .int r4), (0, .ref (a 0)), (1, .int y1), (2, .int y2), (3, .int y3)]) hx hb dX6_islandFor_142 hl (k := 5) rfl rfl (by decide) rfl (fun ls hl => ?_)
            refine lv_goto (tgt := 5) hx hb dX6_islandFor_145 (by decide) ?_
            exact hk5 y1 y2 y3 (y4 + (1 : Int32)) _ _ _ h hz (lv_sub hl [2, 3, 4, 5, 0] rfl)
          · replace h := ite_f c18 h
            refine lv_iload_n hx hb dX6_islandFor_78 rfl (lv_at hl 4 rfl) ?_
            refine lv_iconst (v := (-1 : Int32)) hx hb dX6_islandFor_79 (by decide) ?_
            refine lv_icmp_ne (tgt := 88) hx hb dX6_islandFor_80 (by decide) (fun c19 => ?_) (fun c19 => ?_)
            · replace h := ite_f c19 h
              refine lv_aload_n hx hb dX6_islandFor_88 rfl (lv_at hl 1 rfl) ?_
              refine va_get (v := .ref (a 13)) hx hb hts inX6_islandFor_X6 hown hKK.1 hz.1 0 rfl rfl 22 (by decide) (hts _ (List.mem_of_getElem? (i := 2) rfl)) (fun _ h9 => h9) rfl dX6_islandFor_89 ?_
              refine lv_iload_n hx hb dX6_islandFor_92 rfl (lv_at hl 4 rfl) ?_
              obtain ⟨c20, h⟩ := ck_e h
              refine va_iald (f := (σ 13)) hx hb hKK.1 hz.1 13 0 rfl rfl c20 dX6_islandFor_93 ?_
              refine lv_aload_n hx hb dX6_islandFor_94 rfl (lv_at hl 1 rfl) ?_
              refine va_get (v := .ref (a 17)) hx hb hts inX6_islandFor_X6 hown hKK.1 hz.1 0 rfl rfl 26 (by decide) (hts _ (List.mem_of_getElem? (i := 3) rfl)) (fun _ h9 => h9) rfl dX6_islandFor_95 ?_
              refine lv_iload_n hx hb dX6_islandFor_98 rfl (lv_at hl 3 rfl) ?_
              obtain ⟨c21, h⟩ := ck_e h
              refine va_iald (f := (σ 17)) hx hb hKK.1 hz.1 17 0 rfl rfl c21 dX6_islandFor_99 ?_
              obtain ⟨r22, e24, h⟩ := bd1_e h
              refine zcallSi (As := [.int ((σ 13) (Int32.toNatClampNeg y3)), .int ((σ 17) (Int32.toNatClampNeg y2))]) (rest := []) CF hKK (KX6_apart (dC := dC) (dI := dI) (cI := cI) (cZ := cZ) (a := a) hok e24) (va_cwS 2 hts gX6_islandFor_X6_apart rfl rfl rfl cdX6_apart.2 ⟨Nat.le_of_ble_eq_true rfl, Nat.le_of_ble_eq_true rfl⟩) hz rfl hl.1 rfl (Nat.le_of_ble_eq_true rfl) dX6_islandFor_100 ⟨Nat.le_refl _, Nat.le_refl _⟩ (fun H locs hz => ?_)
              exact b103 k5 hk5 y1 y2 y3 y4 r4 r22 _ _ _ h hz (lv_sub hl [1, 2, 3, 4, 5, 0] rfl)
            · replace h := ite_t c19 h
              refine lv_ldc (v := (1048576 : Int32)) hx hb hown (hts _ (List.mem_of_getElem? (i := 6) rfl)) dX6_islandFor_83 ?_
              refine lv_goto (tgt := 103) hx hb dX6_islandFor_85 (by decide) ?_
              exact b103 k5 hk5 y1 y2 y3 y4 r4 (1048576 : Int32) _ _ _ h hz (lv_sub hl [1, 2, 3, 4, 5, 0] rfl)
  have l5 : ∀  (n : Nat), ∀ (y1 : Int32) (y2 : Int32) (y3 : Int32) (y4 : Int32) (H : Heap) (locs : List Loc) (ls : Array Slot), fX6_islandFor_l5 σ  n y1 y2 y3 y4 = some r → zz (dC, dI) 18 a (wdM cI cZ a hh σ) s.heap H locs → lv_has ls 7 [(0, .ref (a 0)), (1, .int y1), (2, .int y2), (3, .int y3), (4, .int y4)] → W p l e rmX6_islandFor s m args below meth c H locs 0 0 Q (F0 m 5 ls []) := by
    intro  n
    induction n with
    | zero => intro y1 y2 y3 y4 H locs ls h; exact nomatch h
    | succ n ih => exact s5  (fX6_islandFor_l5 σ  n) ih
  unfold fX6_islandFor at h
  refine lv_iconst (v := (-1 : Int32)) hx hb dX6_islandFor_0 (by decide) ?_
  refine lv_istore_n (lv' := [(3, .int (-1 : Int32)), (0, .ref (a 0)), (1, .int x1), (2, .int x2)]) hx hb dX6_islandFor_1 rfl hl (by decide) rfl (fun ls hl => ?_)
  refine lv_iconst (v := (0 : Int32)) hx hb dX6_islandFor_2 (by decide) ?_
  refine lv_istore (lv' := [(4, .int (0 : Int32)), (3, .int (-1 : Int32)), (0, .ref (a 0)), (1, .int x1), (2, .int x2)]) hx hb dX6_islandFor_3 hl (by decide) rfl (fun ls hl => ?_)
  exact l5  FU x1 x2 (-1 : Int32) (0 : Int32) _ _ _ h hz (lv_sub hl [2, 3, 4, 1, 0] rfl)
def fX6_goesFrom (σ : St) (x1 : Int32) (x2 : Int32) : Option (Int32) :=
  (bd1 (fX6_reachesLabel σ x1 x2) fun r1 => (if r1 = 0 then ((bd1 (fX6_islandFor σ x1 x2) fun r5 => (if r5 = (-1 : Int32) then (some (-1 : Int32)) else ((ck (¬ (r5 < 0 ∨ 12 ≤ Int32.toNatClampNeg r5)) <| some ((σ 13) (Int32.toNatClampNeg r5))))))) else ((ck (¬ (x2 < 0 ∨ 8 ≤ Int32.toNatClampNeg x2)) <| some ((σ 17) (Int32.toNatClampNeg x2))))))
abbrev rmX6_goesFrom : Room := { frames := 2, cells := 0, slots := 0, locals := 47 }
set_option maxHeartbeats 4000000 in
set_option maxRecDepth 100000 in
theorem KX6_goesFrom {l : Launch} {dC : Nat → ClassId} {dI : Nat → Nat → Nat} {cI cZ : ClassId} {a : Nat → Nat} {hh : Int64} {σ : St} {x1 : Int32} {x2 : Int32} {r : Int32} (hok : okA 18 a) (h : fX6_goesFrom σ x1 x2 = some r) (sz : Nat) : Met l yX6_goesFrom wsX6_goesFrom rmX6_goesFrom (Pz (dC, dI) cI cZ (wdM cI cZ a hh σ) sz [.ref (a 0), .int x1, .int x2]) (Qzi (dC, dI) 18 a (wdM cI cZ a hh σ) sz r) 0 0 (aN 18 a sz) := by
  refine Met.ofW (cc := cX6_goesFrom) (maxL := 4) (ret := (some .int)) (by decide) rfl ?_
  intro p e s m args below meth c s₁ B hml hv
  obtain ⟨hav, hsz, hP, hKK⟩ := hv
  have hx := B.exec
  have hb := B.bytes
  have hr := B.returns
  have hts := atoms_spec (ws := wsX6_goesFrom) B.pre
  have hown : s.vm.findClass RX6 = some m.cls := findClass_of_methodNamed B.named
  have hlocks := B.notSynchronized
  have CF : CallFix p m c cX6_goesFrom 4 s args wsX6_goesFrom RX6 := ⟨hx, hb, hml, hown, hts⟩
  have hz : zz (dC, dI) 18 a (wdM cI cZ a hh σ) s.heap s.heap [] := ⟨hP, va_S.rf⟩
  have hl := lv_entry [.ref (a 0), .int x1, .int x2] (n := 4) (Nat.le_of_ble_eq_true rfl)
  have hen : entryFrame m args 4 = entryFrame m ([.ref (a 0), .int x1, .int x2] : List Value).toArray 4 := by rw [hav]
  rw [hen, lg_entry_eq]
  generalize (lg_sl [.ref (a 0), .int x1, .int x2] ++ List.replicate (4 - (lg_sl [.ref (a 0), .int x1, .int x2]).length) Slot.unset).toArray = ls at hl ⊢
  have hl : lv_has ls 4 [(0, .ref (a 0)), (1, .int x1), (2, .int x2)] := hl
  have eR : (headSpec wsX6_goesFrom rmX6_goesFrom).room = rmX6_goesFrom := rfl
  rw [eR]
  have rt : ∀ (v : Int32) (t : St) (pc : Nat) (H : Heap) (locs : List Loc) (ls : Array Slot), decode cX6_goesFrom pc = .ok (.ireturn, 1) → some v = some r → zz (dC, dI) 18 a (wdM cI cZ a hh σ) s.heap H locs → W p l e rmX6_goesFrom s m args below meth c H locs 0 0 (MQ below (Qzi (dC, dI) 18 a (wdM cI cZ a hh σ) sz r) args s 0 0 (aN 18 a sz)) (F0 m pc ls [.int v]) := by
    intro v t pc H locs ls hd h hz
    cases h
    exact ziret hsz hx hb hr hlocks hz hd
  generalize (MQ below (Qzi (dC, dI) 18 a (wdM cI cZ a hh σ) sz r) args s 0 0 (aN 18 a sz)) = Q at rt ⊢
  unfold fX6_goesFrom at h
  refine lv_aload_n hx hb dX6_goesFrom_0 rfl (lv_at hl 0 rfl) ?_
  refine lv_iload_n hx hb dX6_goesFrom_1 rfl (lv_at hl 1 rfl) ?_
  refine lv_iload_n hx hb dX6_goesFrom_2 rfl (lv_at hl 2 rfl) ?_
  obtain ⟨r1, e3, h⟩ := bd1_e h
  refine zcallVi (As := [.int x1, .int x2]) (rest := []) CF hKK (KX6_reachesLabel (dC := dC) (dI := dI) (cI := cI) (cZ := cZ) (a := a) hok e3) (cwV 2 hts gX6_goesFrom_X6_reachesLabel rfl rfl rfl cdX6_reachesLabel ⟨Nat.le_of_ble_eq_true rfl, Nat.le_of_ble_eq_true rfl⟩) 0 6 rfl rfl hz rfl hl.1 rfl (Nat.le_of_ble_eq_true rfl) dX6_goesFrom_3 ⟨Nat.le_refl _, Nat.le_refl _⟩ (fun H locs hz => ?_)
  refine lv_if_eq (tgt := 16) hx hb dX6_goesFrom_6 (by decide) (fun c4 => ?_) (fun c4 => ?_)
  · replace h := ite_t c4 h
    refine lv_aload_n hx hb dX6_goesFrom_16 rfl (lv_at hl 0 rfl) ?_
    refine lv_iload_n hx hb dX6_goesFrom_17 rfl (lv_at hl 1 rfl) ?_
    refine lv_iload_n hx hb dX6_goesFrom_18 rfl (lv_at hl 2 rfl) ?_
    obtain ⟨r5, e7, h⟩ := bd1_e h
    refine zcallVi (As := [.int x1, .int x2]) (rest := []) CF hKK (KX6_islandFor (dC := dC) (dI := dI) (cI := cI) (cZ := cZ) (a := a) hok e7) (cwV 2 hts gX6_goesFrom_X6_islandFor rfl rfl rfl cdX6_islandFor ⟨Nat.le_of_ble_eq_true rfl, Nat.le_of_ble_eq_true rfl⟩) 0 6 rfl rfl hz rfl hl.1 rfl (Nat.le_of_ble_eq_true rfl) dX6_goesFrom_19 ⟨Nat.le_refl _, Nat.le_refl _⟩ (fun H locs hz => ?_)
    refine lv_istore_n (lv' := [(3, .int r5), (0, .ref (a 0)), (1, .int x1), (2, .int x2)]) hx hb dX6_goesFrom_22 rfl hl (by decide) rfl (fun ls hl => ?_)
    refine lv_iload_n hx hb dX6_goesFrom_23 rfl (lv_at hl 0 rfl) ?_
    refine lv_iconst (v := (-1 : Int32)) hx hb dX6_goesFrom_24 (by decide) ?_
    refine lv_icmp_ne (tgt := 32) hx hb dX6_goesFrom_25 (by decide) (fun c8 => ?_) (fun c8 => ?_)
    · replace h := ite_f c8 h
      refine lv_aload_n hx hb dX6_goesFrom_32 rfl (lv_at hl 1 rfl) ?_
      refine va_get (v := .ref (a 13)) hx hb hts inX6_goesFrom_X6 hown hKK.1 hz.1 0 rfl rfl 22 (by decide) (hts _ (List.mem_of_getElem? (i := 2) rfl)) (fun _ h9 => h9) rfl dX6_goesFrom_33 ?_
      refine lv_iload_n hx hb dX6_goesFrom_36 rfl (lv_at hl 0 rfl) ?_
      obtain ⟨c9, h⟩ := ck_e h
      refine va_iald (f := (σ 13)) hx hb hKK.1 hz.1 13 0 rfl rfl c9 dX6_goesFrom_37 ?_
      exact rt ((σ 13) (Int32.toNatClampNeg r5)) σ 38 _ _ _ dX6_goesFrom_38 h hz
    · replace h := ite_t c8 h
      refine lv_iconst (v := (-1 : Int32)) hx hb dX6_goesFrom_28 (by decide) ?_
      refine lv_goto (tgt := 38) hx hb dX6_goesFrom_29 (by decide) ?_
      exact rt (-1 : Int32) σ 38 _ _ _ dX6_goesFrom_38 h hz
  · replace h := ite_f c4 h
    refine lv_aload_n hx hb dX6_goesFrom_9 rfl (lv_at hl 0 rfl) ?_
    refine va_get (v := .ref (a 17)) hx hb hts inX6_goesFrom_X6 hown hKK.1 hz.1 0 rfl rfl 26 (by decide) (hts _ (List.mem_of_getElem? (i := 1) rfl)) (fun _ h9 => h9) rfl dX6_goesFrom_10 ?_
    refine lv_iload_n hx hb dX6_goesFrom_13 rfl (lv_at hl 2 rfl) ?_
    obtain ⟨c10, h⟩ := ck_e h
    refine va_iald (f := (σ 17)) hx hb hKK.1 hz.1 17 0 rfl rfl c10 dX6_goesFrom_14 ?_
    exact rt ((σ 17) (Int32.toNatClampNeg x2)) σ 15 _ _ _ dX6_goesFrom_15 h hz
def fX6_shortGoes (σ : St) (x1 : Int32) : Option (Int32) :=
  (ck (¬ (x1 < 0 ∨ 24 ≤ Int32.toNatClampNeg x1)) <| (ck (¬ (((σ 3) (Int32.toNatClampNeg x1)) < 0 ∨ 8 ≤ Int32.toNatClampNeg ((σ 3) (Int32.toNatClampNeg x1)))) <| (ck (¬ (x1 < 0 ∨ 24 ≤ Int32.toNatClampNeg x1)) <| (bd1 (fX6_apart σ ((σ 12) (Int32.toNatClampNeg x1)) ((σ 17) (Int32.toNatClampNeg ((σ 3) (Int32.toNatClampNeg x1))))) fun r4 => (if ((σ 4) (Int32.toNatClampNeg (0 : Int32))) < r4 then (some (-1 : Int32)) else (some ((σ 17) (Int32.toNatClampNeg ((σ 3) (Int32.toNatClampNeg x1))))))))))
abbrev rmX6_shortGoes : Room := { frames := 1, cells := 0, slots := 0, locals := 21 }
set_option maxHeartbeats 4000000 in
set_option maxRecDepth 100000 in
theorem KX6_shortGoes {l : Launch} {dC : Nat → ClassId} {dI : Nat → Nat → Nat} {cI cZ : ClassId} {a : Nat → Nat} {hh : Int64} {σ : St} {x1 : Int32} {r : Int32} (hok : okA 18 a) (h : fX6_shortGoes σ x1 = some r) (sz : Nat) : Met l yX6_shortGoes wsX6_shortGoes rmX6_shortGoes (Pz (dC, dI) cI cZ (wdM cI cZ a hh σ) sz [.ref (a 0), .int x1]) (Qzi (dC, dI) 18 a (wdM cI cZ a hh σ) sz r) 0 0 (aN 18 a sz) := by
  refine Met.ofW (cc := cX6_shortGoes) (maxL := 3) (ret := (some .int)) (by decide) rfl ?_
  intro p e s m args below meth c s₁ B hml hv
  obtain ⟨hav, hsz, hP, hKK⟩ := hv
  have hx := B.exec
  have hb := B.bytes
  have hr := B.returns
  have hts := atoms_spec (ws := wsX6_shortGoes) B.pre
  have hown : s.vm.findClass RX6 = some m.cls := findClass_of_methodNamed B.named
  have hlocks := B.notSynchronized
  have CF : CallFix p m c cX6_shortGoes 3 s args wsX6_shortGoes RX6 := ⟨hx, hb, hml, hown, hts⟩
  have hz : zz (dC, dI) 18 a (wdM cI cZ a hh σ) s.heap s.heap [] := ⟨hP, va_S.rf⟩
  have hl := lv_entry [.ref (a 0), .int x1] (n := 3) (Nat.le_of_ble_eq_true rfl)
  have hen : entryFrame m args 3 = entryFrame m ([.ref (a 0), .int x1] : List Value).toArray 3 := by rw [hav]
  rw [hen, lg_entry_eq]
  generalize (lg_sl [.ref (a 0), .int x1] ++ List.replicate (3 - (lg_sl [.ref (a 0), .int x1]).length) Slot.unset).toArray = ls at hl ⊢
  have hl : lv_has ls 3 [(0, .ref (a 0)), (1, .int x1)] := hl
  have eR : (headSpec wsX6_shortGoes rmX6_shortGoes).room = rmX6_shortGoes := rfl
  rw [eR]
  have rt : ∀ (v : Int32) (t : St) (pc : Nat) (H : Heap) (locs : List Loc) (ls : Array Slot), decode cX6_shortGoes pc = .ok (.ireturn, 1) → some v = some r → zz (dC, dI) 18 a (wdM cI cZ a hh σ) s.heap H locs → W p l e rmX6_shortGoes s m args below meth c H locs 0 0 (MQ below (Qzi (dC, dI) 18 a (wdM cI cZ a hh σ) sz r) args s 0 0 (aN 18 a sz)) (F0 m pc ls [.int v]) := by
    intro v t pc H locs ls hd h hz
    cases h
    exact ziret hsz hx hb hr hlocks hz hd
  generalize (MQ below (Qzi (dC, dI) 18 a (wdM cI cZ a hh σ) sz r) args s 0 0 (aN 18 a sz)) = Q at rt ⊢
  unfold fX6_shortGoes at h
  refine lv_aload_n hx hb dX6_shortGoes_0 rfl (lv_at hl 0 rfl) ?_
  refine va_get (v := .ref (a 17)) hx hb hts inX6_shortGoes_X6 hown hKK.1 hz.1 0 rfl rfl 26 (by decide) (hts _ (List.mem_of_getElem? (i := 1) rfl)) (fun _ h9 => h9) rfl dX6_shortGoes_1 ?_
  refine lv_aload_n hx hb dX6_shortGoes_4 rfl (lv_at hl 0 rfl) ?_
  refine va_get (v := .ref (a 3)) hx hb hts inX6_shortGoes_X6 hown hKK.1 hz.1 0 rfl rfl 4 (by decide) (hts _ (List.mem_of_getElem? (i := 2) rfl)) (fun _ h9 => h9) rfl dX6_shortGoes_5 ?_
  refine lv_iload_n hx hb dX6_shortGoes_8 rfl (lv_at hl 1 rfl) ?_
  obtain ⟨c1, h⟩ := ck_e h
  refine va_iald (f := (σ 3)) hx hb hKK.1 hz.1 3 0 rfl rfl c1 dX6_shortGoes_9 ?_
  obtain ⟨c2, h⟩ := ck_e h
  refine va_iald (f := (σ 17)) hx hb hKK.1 hz.1 17 0 rfl rfl c2 dX6_shortGoes_10 ?_
  refine lv_istore_n (lv' := [(2, .int ((σ 17) (Int32.toNatClampNeg ((σ 3) (Int32.toNatClampNeg x1))))), (0, .ref (a 0)), (1, .int x1)]) hx hb dX6_shortGoes_11 rfl hl (by decide) rfl (fun ls hl => ?_)
  refine lv_aload_n hx hb dX6_shortGoes_12 rfl (lv_at hl 1 rfl) ?_
  refine va_get (v := .ref (a 12)) hx hb hts inX6_shortGoes_X6 hown hKK.1 hz.1 0 rfl rfl 21 (by decide) (hts _ (List.mem_of_getElem? (i := 3) rfl)) (fun _ h9 => h9) rfl dX6_shortGoes_13 ?_
  refine lv_iload_n hx hb dX6_shortGoes_16 rfl (lv_at hl 2 rfl) ?_
  obtain ⟨c3, h⟩ := ck_e h
  refine va_iald (f := (σ 12)) hx hb hKK.1 hz.1 12 0 rfl rfl c3 dX6_shortGoes_17 ?_
  refine lv_iload_n hx hb dX6_shortGoes_18 rfl (lv_at hl 0 rfl) ?_
  obtain ⟨r4, e6, h⟩ := bd1_e h
  refine zcallSi (As := [.int ((σ 12) (Int32.toNatClampNeg x1)), .int ((σ 17) (Int32.toNatClampNeg ((σ 3) (Int32.toNatClampNeg x1))))]) (rest := []) CF hKK (KX6_apart (dC := dC) (dI := dI) (cI := cI) (cZ := cZ) (a := a) hok e6) (va_cwS 2 hts gX6_shortGoes_X6_apart rfl rfl rfl cdX6_apart.2 ⟨Nat.le_of_ble_eq_true rfl, Nat.le_of_ble_eq_true rfl⟩) hz rfl hl.1 rfl (Nat.le_of_ble_eq_true rfl) dX6_shortGoes_19 ⟨Nat.le_refl _, Nat.le_refl _⟩ (fun H locs hz => ?_)
  refine lv_aload_n hx hb dX6_shortGoes_22 rfl (lv_at hl 1 rfl) ?_
  refine va_get (v := .ref (a 4)) hx hb hts inX6_shortGoes_X6 hown hKK.1 hz.1 0 rfl rfl 7 (by decide) (hts _ (List.mem_of_getElem? (i := 4) rfl)) (fun _ h9 => h9) rfl dX6_shortGoes_23 ?_
  refine lv_iconst (v := (0 : Int32)) hx hb dX6_shortGoes_26 (by decide) ?_
  refine va_iald (f := (σ 4)) hx hb hKK.1 hz.1 4 0 rfl rfl (by decide : vp_inD (0 : Int32) 3) dX6_shortGoes_27 ?_
  refine lv_icmp_gt (tgt := 35) hx hb dX6_shortGoes_28 (by decide) (fun c7 => ?_) (fun c7 => ?_)
  · replace h := ite_t c7 h
    refine lv_iconst (v := (-1 : Int32)) hx hb dX6_shortGoes_35 (by decide) ?_
    exact rt (-1 : Int32) σ 36 _ _ _ dX6_shortGoes_36 h hz
  · replace h := ite_f c7 h
    refine lv_iload_n hx hb dX6_shortGoes_31 rfl (lv_at hl 0 rfl) ?_
    refine lv_goto (tgt := 36) hx hb dX6_shortGoes_32 (by decide) ?_
    exact rt ((σ 17) (Int32.toNatClampNeg ((σ 3) (Int32.toNatClampNeg x1)))) σ 36 _ _ _ dX6_shortGoes_36 h hz
def fX6_goesTo (σ : St) (x1 : Int32) : Option (Int32) :=
  (ck (¬ (x1 < 0 ∨ 24 ≤ Int32.toNatClampNeg x1)) <| (if ((σ 2) (Int32.toNatClampNeg x1)) = (1 : Int32) then ((bd1 (fX6_constantFor σ x1) fun r15 => (if r15 = (-1 : Int32) then (some (-1 : Int32)) else ((ck (¬ (r15 < 0 ∨ 16 ≤ Int32.toNatClampNeg r15)) <| some ((σ 14) (Int32.toNatClampNeg r15))))))) else ((ck (¬ (x1 < 0 ∨ 24 ≤ Int32.toNatClampNeg x1)) <| (if ((σ 2) (Int32.toNatClampNeg x1)) = (2 : Int32) then ((ck (¬ (x1 < 0 ∨ 24 ≤ Int32.toNatClampNeg x1)) <| (if ((σ 7) (Int32.toNatClampNeg x1)) = 0 then ((bd1 (fX6_shortGoes σ x1) fun r7 => some r7)) else ((ck (¬ (x1 < 0 ∨ 24 ≤ Int32.toNatClampNeg x1)) <| (ck (¬ (x1 < 0 ∨ 24 ≤ Int32.toNatClampNeg x1)) <| (bd1 (fX6_goesFrom σ ((σ 12) (Int32.toNatClampNeg x1)) ((σ 3) (Int32.toNatClampNeg x1))) fun r12 => some r12))))))) else (some (-1 : Int32)))))))
abbrev rmX6_goesTo : Room := { frames := 3, cells := 0, slots := 0, locals := 70 }
set_option maxHeartbeats 4000000 in
set_option maxRecDepth 100000 in
theorem KX6_goesTo {l : Launch} {dC : Nat → ClassId} {dI : Nat → Nat → Nat} {cI cZ : ClassId} {a : Nat → Nat} {hh : Int64} {σ : St} {x1 : Int32} {r : Int32} (hok : okA 18 a) (h : fX6_goesTo σ x1 = some r) (sz : Nat) : Met l yX6_goesTo wsX6_goesTo rmX6_goesTo (Pz (dC, dI) cI cZ (wdM cI cZ a hh σ) sz [.ref (a 0), .int x1]) (Qzi (dC, dI) 18 a (wdM cI cZ a hh σ) sz r) 0 0 (aN 18 a sz) := by
  refine Met.ofW (cc := cX6_goesTo) (maxL := 3) (ret := (some .int)) (by decide) rfl ?_
  intro p e s m args below meth c s₁ B hml hv
  obtain ⟨hav, hsz, hP, hKK⟩ := hv
  have hx := B.exec
  have hb := B.bytes
  have hr := B.returns
  have hts := atoms_spec (ws := wsX6_goesTo) B.pre
  have hown : s.vm.findClass RX6 = some m.cls := findClass_of_methodNamed B.named
  have hlocks := B.notSynchronized
  have CF : CallFix p m c cX6_goesTo 3 s args wsX6_goesTo RX6 := ⟨hx, hb, hml, hown, hts⟩
  have hz : zz (dC, dI) 18 a (wdM cI cZ a hh σ) s.heap s.heap [] := ⟨hP, va_S.rf⟩
  have hl := lv_entry [.ref (a 0), .int x1] (n := 3) (Nat.le_of_ble_eq_true rfl)
  have hen : entryFrame m args 3 = entryFrame m ([.ref (a 0), .int x1] : List Value).toArray 3 := by rw [hav]
  rw [hen, lg_entry_eq]
  generalize (lg_sl [.ref (a 0), .int x1] ++ List.replicate (3 - (lg_sl [.ref (a 0), .int x1]).length) Slot.unset).toArray = ls at hl ⊢
  have hl : lv_has ls 3 [(0, .ref (a 0)), (1, .int x1)] := hl
  have eR : (headSpec wsX6_goesTo rmX6_goesTo).room = rmX6_goesTo := rfl
  rw [eR]
  have rt : ∀ (v : Int32) (t : St) (pc : Nat) (H : Heap) (locs : List Loc) (ls : Array Slot), decode cX6_goesTo pc = .ok (.ireturn, 1) → some v = some r → zz (dC, dI) 18 a (wdM cI cZ a hh σ) s.heap H locs → W p l e rmX6_goesTo s m args below meth c H locs 0 0 (MQ below (Qzi (dC, dI) 18 a (wdM cI cZ a hh σ) sz r) args s 0 0 (aN 18 a sz)) (F0 m pc ls [.int v]) := by
    intro v t pc H locs ls hd h hz
    cases h
    exact ziret hsz hx hb hr hlocks hz hd
  generalize (MQ below (Qzi (dC, dI) 18 a (wdM cI cZ a hh σ) sz r) args s 0 0 (aN 18 a sz)) = Q at rt ⊢
  unfold fX6_goesTo at h
  refine lv_aload_n hx hb dX6_goesTo_0 rfl (lv_at hl 0 rfl) ?_
  refine va_get (v := .ref (a 2)) hx hb hts inX6_goesTo_X6 hown hKK.1 hz.1 0 rfl rfl 3 (by decide) (hts _ (List.mem_of_getElem? (i := 1) rfl)) (fun _ h9 => h9) rfl dX6_goesTo_1 ?_
  refine lv_iload_n hx hb dX6_goesTo_4 rfl (lv_at hl 1 rfl) ?_
  obtain ⟨c1, h⟩ := ck_e h
  refine va_iald (f := (σ 2)) hx hb hKK.1 hz.1 2 0 rfl rfl c1 dX6_goesTo_5 ?_
  refine lv_iconst (v := (1 : Int32)) hx hb dX6_goesTo_6 (by decide) ?_
  refine lv_icmp_ne (tgt := 32) hx hb dX6_goesTo_7 (by decide) (fun c2 => ?_) (fun c2 => ?_)
  · replace h := ite_f c2 h
    refine lv_aload_n hx hb dX6_goesTo_32 rfl (lv_at hl 0 rfl) ?_
    refine va_get (v := .ref (a 2)) hx hb hts inX6_goesTo_X6 hown hKK.1 hz.1 0 rfl rfl 3 (by decide) (hts _ (List.mem_of_getElem? (i := 1) rfl)) (fun _ h9 => h9) rfl dX6_goesTo_33 ?_
    refine lv_iload_n hx hb dX6_goesTo_36 rfl (lv_at hl 1 rfl) ?_
    obtain ⟨c3, h⟩ := ck_e h
    refine va_iald (f := (σ 2)) hx hb hKK.1 hz.1 2 0 rfl rfl c3 dX6_goesTo_37 ?_
    refine lv_iconst (v := (2 : Int32)) hx hb dX6_goesTo_38 (by decide) ?_
    refine lv_icmp_eq (tgt := 44) hx hb dX6_goesTo_39 (by decide) (fun c4 => ?_) (fun c4 => ?_)
    · replace h := ite_t c4 h
      refine lv_aload_n hx hb dX6_goesTo_44 rfl (lv_at hl 0 rfl) ?_
      refine va_get (v := .ref (a 7)) hx hb hts inX6_goesTo_X6 hown hKK.1 hz.1 0 rfl rfl 14 (by decide) (hts _ (List.mem_of_getElem? (i := 3) rfl)) (fun _ h9 => h9) rfl dX6_goesTo_45 ?_
      refine lv_iload_n hx hb dX6_goesTo_48 rfl (lv_at hl 1 rfl) ?_
      obtain ⟨c5, h⟩ := ck_e h
      refine va_zald (f := (σ 7)) hx hb hKK.1 hz.1 7 1 rfl rfl c5 dX6_goesTo_49 ?_
      refine lv_if_eq (tgt := 72) hx hb dX6_goesTo_50 (by decide) (fun c6 => ?_) (fun c6 => ?_)
      · replace h := ite_t c6 h
        refine lv_aload_n hx hb dX6_goesTo_72 rfl (lv_at hl 0 rfl) ?_
        refine lv_iload_n hx hb dX6_goesTo_73 rfl (lv_at hl 1 rfl) ?_
        obtain ⟨r7, e9, h⟩ := bd1_e h
        refine zcallVi (As := [.int x1]) (rest := []) CF hKK (KX6_shortGoes (dC := dC) (dI := dI) (cI := cI) (cZ := cZ) (a := a) hok e9) (cwV 1 hts gX6_goesTo_X6_shortGoes rfl rfl rfl cdX6_shortGoes ⟨Nat.le_of_ble_eq_true rfl, Nat.le_of_ble_eq_true rfl⟩) 0 6 rfl rfl hz rfl hl.1 rfl (Nat.le_of_ble_eq_true rfl) dX6_goesTo_74 ⟨Nat.le_refl _, Nat.le_refl _⟩ (fun H locs hz => ?_)
        exact rt r7 σ 77 _ _ _ dX6_goesTo_77 h hz
      · replace h := ite_f c6 h
        refine lv_aload_n hx hb dX6_goesTo_53 rfl (lv_at hl 0 rfl) ?_
        refine lv_aload_n hx hb dX6_goesTo_54 rfl (lv_at hl 0 rfl) ?_
        refine va_get (v := .ref (a 12)) hx hb hts inX6_goesTo_X6 hown hKK.1 hz.1 0 rfl rfl 21 (by decide) (hts _ (List.mem_of_getElem? (i := 4) rfl)) (fun _ h9 => h9) rfl dX6_goesTo_55 ?_
        refine lv_iload_n hx hb dX6_goesTo_58 rfl (lv_at hl 1 rfl) ?_
        obtain ⟨c10, h⟩ := ck_e h
        refine va_iald (f := (σ 12)) hx hb hKK.1 hz.1 12 0 rfl rfl c10 dX6_goesTo_59 ?_
        refine lv_aload_n hx hb dX6_goesTo_60 rfl (lv_at hl 0 rfl) ?_
        refine va_get (v := .ref (a 3)) hx hb hts inX6_goesTo_X6 hown hKK.1 hz.1 0 rfl rfl 4 (by decide) (hts _ (List.mem_of_getElem? (i := 5) rfl)) (fun _ h9 => h9) rfl dX6_goesTo_61 ?_
        refine lv_iload_n hx hb dX6_goesTo_64 rfl (lv_at hl 1 rfl) ?_
        obtain ⟨c11, h⟩ := ck_e h
        refine va_iald (f := (σ 3)) hx hb hKK.1 hz.1 3 0 rfl rfl c11 dX6_goesTo_65 ?_
        obtain ⟨r12, e14, h⟩ := bd1_e h
        refine zcallVi (As := [.int ((σ 12) (Int32.toNatClampNeg x1)), .int ((σ 3) (Int32.toNatClampNeg x1))]) (rest := []) CF hKK (KX6_goesFrom (dC := dC) (dI := dI) (cI := cI) (cZ := cZ) (a := a) hok e14) (cwV 2 hts gX6_goesTo_X6_goesFrom rfl rfl rfl cdX6_goesFrom ⟨Nat.le_of_ble_eq_true rfl, Nat.le_of_ble_eq_true rfl⟩) 0 6 rfl rfl hz rfl hl.1 rfl (Nat.le_of_ble_eq_true rfl) dX6_goesTo_66 ⟨Nat.le_refl _, Nat.le_refl _⟩ (fun H locs hz => ?_)
        refine lv_goto (tgt := 77) hx hb dX6_goesTo_69 (by decide) ?_
        exact rt r12 σ 77 _ _ _ dX6_goesTo_77 h hz
    · replace h := ite_f c4 h
      refine lv_iconst (v := (-1 : Int32)) hx hb dX6_goesTo_42 (by decide) ?_
      exact rt (-1 : Int32) σ 43 _ _ _ dX6_goesTo_43 h hz
  · replace h := ite_t c2 h
    refine lv_aload_n hx hb dX6_goesTo_10 rfl (lv_at hl 0 rfl) ?_
    refine lv_iload_n hx hb dX6_goesTo_11 rfl (lv_at hl 1 rfl) ?_
    obtain ⟨r15, e17, h⟩ := bd1_e h
    refine zcallVi (As := [.int x1]) (rest := []) CF hKK (KX6_constantFor (dC := dC) (dI := dI) (cI := cI) (cZ := cZ) (a := a) hok e17) (cwV 1 hts gX6_goesTo_X6_constantFor rfl rfl rfl cdX6_constantFor ⟨Nat.le_of_ble_eq_true rfl, Nat.le_of_ble_eq_true rfl⟩) 0 6 rfl rfl hz rfl hl.1 rfl (Nat.le_of_ble_eq_true rfl) dX6_goesTo_12 ⟨Nat.le_refl _, Nat.le_refl _⟩ (fun H locs hz => ?_)
    refine lv_istore_n (lv' := [(2, .int r15), (0, .ref (a 0)), (1, .int x1)]) hx hb dX6_goesTo_15 rfl hl (by decide) rfl (fun ls hl => ?_)
    refine lv_iload_n hx hb dX6_goesTo_16 rfl (lv_at hl 0 rfl) ?_
    refine lv_iconst (v := (-1 : Int32)) hx hb dX6_goesTo_17 (by decide) ?_
    refine lv_icmp_ne (tgt := 25) hx hb dX6_goesTo_18 (by decide) (fun c18 => ?_) (fun c18 => ?_)
    · replace h := ite_f c18 h
      refine lv_aload_n hx hb dX6_goesTo_25 rfl (lv_at hl 1 rfl) ?_
      refine va_get (v := .ref (a 14)) hx hb hts inX6_goesTo_X6 hown hKK.1 hz.1 0 rfl rfl 23 (by decide) (hts _ (List.mem_of_getElem? (i := 2) rfl)) (fun _ h9 => h9) rfl dX6_goesTo_26 ?_
      refine lv_iload_n hx hb dX6_goesTo_29 rfl (lv_at hl 0 rfl) ?_
      obtain ⟨c19, h⟩ := ck_e h
      refine va_iald (f := (σ 14)) hx hb hKK.1 hz.1 14 0 rfl rfl c19 dX6_goesTo_30 ?_
      exact rt ((σ 14) (Int32.toNatClampNeg r15)) σ 31 _ _ _ dX6_goesTo_31 h hz
    · replace h := ite_t c18 h
      refine lv_iconst (v := (-1 : Int32)) hx hb dX6_goesTo_21 (by decide) ?_
      refine lv_goto (tgt := 31) hx hb dX6_goesTo_22 (by decide) ?_
      exact rt (-1 : Int32) σ 31 _ _ _ dX6_goesTo_31 h hz
def fX6_firstStuck_b52 (σ : St) (k10 : Int32 → Int32 → Int32 → Int32 → Option (Int32)) (y1 : Int32) (y2 : Int32) (y3 : Int32) (y4 : Int32) (t0 : Int32) : Option (Int32) :=
  (if t0 = 0 then (k10 y1 y2 y3 (y4 + (-1 : Int32))) else (k10 y1 y2 y4 (y4 + (-1 : Int32))))
def fX6_firstStuck_b51 (σ : St) (k10 : Int32 → Int32 → Int32 → Int32 → Option (Int32)) (y1 : Int32) (y2 : Int32) (y3 : Int32) (y4 : Int32) : Option (Int32) :=
  fX6_firstStuck_b52 σ k10 y1 y2 y3 y4 (0 : Int32)
def fX6_firstStuck_s10 (σ : St) (k10 : Int32 → Int32 → Int32 → Int32 → Option (Int32)) (y1 : Int32) (y2 : Int32) (y3 : Int32) (y4 : Int32) : Option (Int32) :=
  (if y4 < 0 then (some y3) else ((ck (¬ (y4 < 0 ∨ 24 ≤ Int32.toNatClampNeg y4)) <| (if ((σ 2) (Int32.toNatClampNeg y4)) = y1 then ((ck (¬ (y4 < 0 ∨ 24 ≤ Int32.toNatClampNeg y4)) <| (if ((σ 7) (Int32.toNatClampNeg y4)) = y2 then ((bd1 (fX6_goesTo σ y4) fun r7 => (if r7 = (-1 : Int32) then (fX6_firstStuck_b52 σ k10 y1 y2 y3 y4 (1 : Int32)) else (fX6_firstStuck_b51 σ k10 y1 y2 y3 y4)))) else (fX6_firstStuck_b51 σ k10 y1 y2 y3 y4)))) else (fX6_firstStuck_b51 σ k10 y1 y2 y3 y4)))))
def fX6_firstStuck_l10 (σ : St)  : Nat → Int32 → Int32 → Int32 → Int32 → Option (Int32) :=
  itr (fX6_firstStuck_s10 σ ) (fun _ _ _ _ => none)
def fX6_firstStuck (σ : St) (x1 : Int32) (x2 : Int32) : Option (Int32) :=
  fX6_firstStuck_l10 σ  FU x1 x2 (-1 : Int32) ((σ 41 0) - (1 : Int32))
abbrev rmX6_firstStuck : Room := { frames := 4, cells := 0, slots := 0, locals := 92 }
set_option maxHeartbeats 4000000 in
set_option maxRecDepth 100000 in
theorem KX6_firstStuck {l : Launch} {dC : Nat → ClassId} {dI : Nat → Nat → Nat} {cI cZ : ClassId} {a : Nat → Nat} {hh : Int64} {σ : St} {x1 : Int32} {x2 : Int32} {r : Int32} (hok : okA 18 a) (h : fX6_firstStuck σ x1 x2 = some r) (sz : Nat) : Met l yX6_firstStuck wsX6_firstStuck rmX6_firstStuck (Pz (dC, dI) cI cZ (wdM cI cZ a hh σ) sz [.ref (a 0), .int x1, .int x2]) (Qzi (dC, dI) 18 a (wdM cI cZ a hh σ) sz r) 0 0 (aN 18 a sz) := by
  refine Met.ofW (cc := cX6_firstStuck) (maxL := 6) (ret := (some .int)) (by decide) rfl ?_
  intro p e s m args below meth c s₁ B hml hv
  obtain ⟨hav, hsz, hP, hKK⟩ := hv
  have hx := B.exec
  have hb := B.bytes
  have hr := B.returns
  have hts := atoms_spec (ws := wsX6_firstStuck) B.pre
  have hown : s.vm.findClass RX6 = some m.cls := findClass_of_methodNamed B.named
  have hlocks := B.notSynchronized
  have CF : CallFix p m c cX6_firstStuck 6 s args wsX6_firstStuck RX6 := ⟨hx, hb, hml, hown, hts⟩
  have hz : zz (dC, dI) 18 a (wdM cI cZ a hh σ) s.heap s.heap [] := ⟨hP, va_S.rf⟩
  have hl := lv_entry [.ref (a 0), .int x1, .int x2] (n := 6) (Nat.le_of_ble_eq_true rfl)
  have hen : entryFrame m args 6 = entryFrame m ([.ref (a 0), .int x1, .int x2] : List Value).toArray 6 := by rw [hav]
  rw [hen, lg_entry_eq]
  generalize (lg_sl [.ref (a 0), .int x1, .int x2] ++ List.replicate (6 - (lg_sl [.ref (a 0), .int x1, .int x2]).length) Slot.unset).toArray = ls at hl ⊢
  have hl : lv_has ls 6 [(0, .ref (a 0)), (1, .int x1), (2, .int x2)] := hl
  have eR : (headSpec wsX6_firstStuck rmX6_firstStuck).room = rmX6_firstStuck := rfl
  rw [eR]
  have rt : ∀ (v : Int32) (t : St) (pc : Nat) (H : Heap) (locs : List Loc) (ls : Array Slot), decode cX6_firstStuck pc = .ok (.ireturn, 1) → some v = some r → zz (dC, dI) 18 a (wdM cI cZ a hh σ) s.heap H locs → W p l e rmX6_firstStuck s m args below meth c H locs 0 0 (MQ below (Qzi (dC, dI) 18 a (wdM cI cZ a hh σ) sz r) args s 0 0 (aN 18 a sz)) (F0 m pc ls [.int v]) := by
    intro v t pc H locs ls hd h hz
    cases h
    exact ziret hsz hx hb hr hlocks hz hd
  generalize (MQ below (Qzi (dC, dI) 18 a (wdM cI cZ a hh σ) sz r) args s 0 0 (aN 18 a sz)) = Q at rt ⊢
  have b52 : ∀ (k10 : Int32 → Int32 → Int32 → Int32 → Option (Int32)) (hk10 : (∀ (y1 : Int32) (y2 : Int32) (y3 : Int32) (y4 : Int32) (H : Heap) (locs : List Loc) (ls : Array Slot), k10 y1 y2 y3 y4 = some r → zz (dC, dI) 18 a (wdM cI cZ a hh σ) s.heap H locs → lv_has ls 6 [(0, .ref (a 0)), (1, .int y1), (2, .int y2), (3, .int y3), (4, .int y4)] → W p l e rmX6_firstStuck s m args below meth c H locs 0 0 Q (F0 m 10 ls []))) (y1 : Int32) (y2 : Int32) (y3 : Int32) (y4 : Int32) (t0 : Int32) (H : Heap) (locs : List Loc) (ls : Array Slot), fX6_firstStuck_b52 σ k10 y1 y2 y3 y4 t0 = some r → zz (dC, dI) 18 a (wdM cI cZ a hh σ) s.heap H locs → lv_has ls 6 [(0, .ref (a 0)), (1, .int y1), (2, .int y2), (3, .int y3), (4, .int y4)] → W p l e rmX6_firstStuck s m args below meth c H locs 0 0 Q (F0 m 52 ls [.int t0]) := by
    intro k10 hk10 y1 y2 y3 y4 t0 H locs ls h hz hl
    unfold fX6_firstStuck_b52 at h
    refine lv_istore (lv' := [(5, .int t0), (0, .ref (a 0)), (1, .int y1), (2, .int y2), (3, .int y3), (4, .int y4)]) hx hb dX6_firstStuck_52 hl (by decide) rfl (fun ls hl => ?_)
    refine lv_iload hx hb dX6_firstStuck_54 (lv_at hl 0 rfl) ?_
    refine lv_if_eq (tgt := 64) hx hb dX6_firstStuck_56 (by decide) (fun c4 => ?_) (fun c4 => ?_)
    · replace h := ite_t c4 h
      refine lv_iload_n hx hb dX6_firstStuck_64 rfl (lv_at hl 4 rfl) ?_
      refine lv_istore_n (lv' := [(3, .int y3), (5, .int t0), (0, .ref (a 0)), (1, .int y1), (2, .int y2), (4, .int y4)]) hx hb dX6_firstStuck_65 rfl hl (by decide) rfl (fun ls hl => ?_)
      refine lv_iinc (v := (y4 + (-1 : Int32))) (lv' := [(4, .int (y4 + (-1 : Int32))), (3, .int y3), (5, .int t0), (0, .ref (a 0)), (1, .int y1), (2, .int y2)]) hx hb dX6_firstStuck_66 hl (k := 5) rfl rfl (by decide) rfl (fun ls hl => ?_)
      refine lv_goto (tgt := 10) hx hb dX6_firstStuck_69 (by decide) ?_
      exact hk10 y1 y2 y3 (y4 + (-1 : Int32)) _ _ _ h hz (lv_sub hl [3, 4, 5, 1, 0] rfl)
    · replace h := ite_f c4 h
      refine lv_iload hx hb dX6_firstStuck_59 (lv_at hl 5 rfl) ?_
      refine lv_goto (tgt := 65) hx hb dX6_firstStuck_61 (by decide) ?_
      refine lv_istore_n (lv' := [(3, .int y4), (5, .int t0), (0, .ref (a 0)), (1, .int y1), (2, .int y2), (4, .int y4)]) hx hb dX6_firstStuck_65 rfl hl (by decide) rfl (fun ls hl => ?_)
      refine lv_iinc (v := (y4 + (-1 : Int32))) (lv' := [(4, .int (y4 + (-1 : Int32))), (3, .int y4), (5, .int t0), (0, .ref (a 0)), (1, .int y1), (2, .int y2)]) hx hb dX6_firstStuck_66 hl (k := 5) rfl rfl (by decide) rfl (fun ls hl => ?_)
      refine lv_goto (tgt := 10) hx hb dX6_firstStuck_69 (by decide) ?_
      exact hk10 y1 y2 y4 (y4 + (-1 : Int32)) _ _ _ h hz (lv_sub hl [3, 4, 5, 1, 0] rfl)
  have b51 : ∀ (k10 : Int32 → Int32 → Int32 → Int32 → Option (Int32)) (hk10 : (∀ (y1 : Int32) (y2 : Int32) (y3 : Int32) (y4 : Int32) (H : Heap) (locs : List Loc) (ls : Array Slot), k10 y1 y2 y3 y4 = some r → zz (dC, dI) 18 a (wdM cI cZ a hh σ) s.heap H locs → lv_has ls 6 [(0, .ref (a 0)), (1, .int y1), (2, .int y2), (3, .int y3), (4, .int y4)] → W p l e rmX6_firstStuck s m args below meth c H locs 0 0 Q (F0 m 10 ls []))) (y1 : Int32) (y2 : Int32) (y3 : Int32) (y4 : Int32) (H : Heap) (locs : List Loc) (ls : Array Slot), fX6_firstStuck_b51 σ k10 y1 y2 y3 y4 = some r → zz (dC, dI) 18 a (wdM cI cZ a hh σ) s.heap H locs → lv_has ls 6 [(0, .ref (a 0)), (1, .int y1), (2, .int y2), (3, .int y3), (4, .int y4)] → W p l e rmX6_firstStuck s m args below meth c H locs 0 0 Q (F0 m 51 ls []) := by
    intro k10 hk10 y1 y2 y3 y4 H locs ls h hz hl
    unfold fX6_firstStuck_b51 at h
    refine lv_iconst (v := (0 : Int32)) hx hb dX6_firstStuck_51 (by decide) ?_
    exact b52 k10 hk10 y1 y2 y3 y4 (0 : Int32) _ _ _ h hz (lv_sub hl [0, 1, 2, 3, 4] rfl)
  have s10 : ∀ (k10 : Int32 → Int32 → Int32 → Int32 → Option (Int32)) (hk10 : (∀ (y1 : Int32) (y2 : Int32) (y3 : Int32) (y4 : Int32) (H : Heap) (locs : List Loc) (ls : Array Slot), k10 y1 y2 y3 y4 = some r → zz (dC, dI) 18 a (wdM cI cZ a hh σ) s.heap H locs → lv_has ls 6 [(0, .ref (a 0)), (1, .int y1), (2, .int y2), (3, .int y3), (4, .int y4)] → W p l e rmX6_firstStuck s m args below meth c H locs 0 0 Q (F0 m 10 ls []))) (y1 : Int32) (y2 : Int32) (y3 : Int32) (y4 : Int32) (H : Heap) (locs : List Loc) (ls : Array Slot), fX6_firstStuck_s10 σ k10 y1 y2 y3 y4 = some r → zz (dC, dI) 18 a (wdM cI cZ a hh σ) s.heap H locs → lv_has ls 6 [(0, .ref (a 0)), (1, .int y1), (2, .int y2), (3, .int y3), (4, .int y4)] → W p l e rmX6_firstStuck s m args below meth c H locs 0 0 Q (F0 m 10 ls []) := by
    intro k10 hk10 y1 y2 y3 y4 H locs ls h hz hl
    unfold fX6_firstStuck_s10 at h
    refine lv_iload hx hb dX6_firstStuck_10 (lv_at hl 4 rfl) ?_
    refine lv_if_lt (tgt := 72) hx hb dX6_firstStuck_12 (by decide) (fun c1 => ?_) (fun c1 => ?_)
    · replace h := ite_t c1 h
      refine lv_iload_n hx hb dX6_firstStuck_72 rfl (lv_at hl 3 rfl) ?_
      exact rt y3 σ 73 _ _ _ dX6_firstStuck_73 h hz
    · replace h := ite_f c1 h
      refine lv_aload_n hx hb dX6_firstStuck_15 rfl (lv_at hl 0 rfl) ?_
      refine va_get (v := .ref (a 2)) hx hb hts inX6_firstStuck_X6 hown hKK.1 hz.1 0 rfl rfl 3 (by decide) (hts _ (List.mem_of_getElem? (i := 2) rfl)) (fun _ h9 => h9) rfl dX6_firstStuck_16 ?_
      refine lv_iload hx hb dX6_firstStuck_19 (lv_at hl 4 rfl) ?_
      obtain ⟨c2, h⟩ := ck_e h
      refine va_iald (f := (σ 2)) hx hb hKK.1 hz.1 2 0 rfl rfl c2 dX6_firstStuck_21 ?_
      refine lv_iload_n hx hb dX6_firstStuck_22 rfl (lv_at hl 1 rfl) ?_
      refine lv_icmp_ne (tgt := 51) hx hb dX6_firstStuck_23 (by decide) (fun c3 => ?_) (fun c3 => ?_)
      · replace h := ite_f c3 h
        exact b51 k10 hk10 y1 y2 y3 y4 _ _ _ h hz (lv_sub hl [0, 1, 2, 3, 4] rfl)
      · replace h := ite_t c3 h
        refine lv_aload_n hx hb dX6_firstStuck_26 rfl (lv_at hl 0 rfl) ?_
        refine va_get (v := .ref (a 7)) hx hb hts inX6_firstStuck_X6 hown hKK.1 hz.1 0 rfl rfl 14 (by decide) (hts _ (List.mem_of_getElem? (i := 3) rfl)) (fun _ h9 => h9) rfl dX6_firstStuck_27 ?_
        refine lv_iload hx hb dX6_firstStuck_30 (lv_at hl 4 rfl) ?_
        obtain ⟨c5, h⟩ := ck_e h
        refine va_zald (f := (σ 7)) hx hb hKK.1 hz.1 7 1 rfl rfl c5 dX6_firstStuck_32 ?_
        refine lv_iload_n hx hb dX6_firstStuck_33 rfl (lv_at hl 2 rfl) ?_
        refine lv_icmp_ne (tgt := 51) hx hb dX6_firstStuck_34 (by decide) (fun c6 => ?_) (fun c6 => ?_)
        · replace h := ite_f c6 h
          exact b51 k10 hk10 y1 y2 y3 y4 _ _ _ h hz (lv_sub hl [0, 1, 2, 3, 4] rfl)
        · replace h := ite_t c6 h
          refine lv_aload_n hx hb dX6_firstStuck_37 rfl (lv_at hl 0 rfl) ?_
          refine lv_iload hx hb dX6_firstStuck_38 (lv_at hl 4 rfl) ?_
          obtain ⟨r7, e9, h⟩ := bd1_e h
          refine zcallVi (As := [.int y4]) (rest := []) CF hKK (KX6_goesTo (dC := dC) (dI := dI) (cI := cI) (cZ := cZ) (a := a) hok e9) (cwV 1 hts gX6_firstStuck_X6_goesTo rfl rfl rfl cdX6_goesTo ⟨Nat.le_of_ble_eq_true rfl, Nat.le_of_ble_eq_true rfl⟩) 0 6 rfl rfl hz rfl hl.1 rfl (Nat.le_of_ble_eq_true rfl) dX6_firstStuck_40 ⟨Nat.le_refl _, Nat.le_refl _⟩ (fun H locs hz => ?_)
          refine lv_iconst (v := (-1 : Int32)) hx hb dX6_firstStuck_43 (by decide) ?_
          refine lv_icmp_ne (tgt := 51) hx hb dX6_firstStuck_44 (by decide) (fun c10 => ?_) (fun c10 => ?_)
          · replace h := ite_f c10 h
            exact b51 k10 hk10 y1 y2 y3 y4 _ _ _ h hz (lv_sub hl [0, 1, 2, 3, 4] rfl)
          · replace h := ite_t c10 h
            refine lv_iconst (v := (1 : Int32)) hx hb dX6_firstStuck_47 (by decide) ?_
            refine lv_goto (tgt := 52) hx hb dX6_firstStuck_48 (by decide) ?_
            exact b52 k10 hk10 y1 y2 y3 y4 (1 : Int32) _ _ _ h hz (lv_sub hl [0, 1, 2, 3, 4] rfl)
  have l10 : ∀  (n : Nat), ∀ (y1 : Int32) (y2 : Int32) (y3 : Int32) (y4 : Int32) (H : Heap) (locs : List Loc) (ls : Array Slot), fX6_firstStuck_l10 σ  n y1 y2 y3 y4 = some r → zz (dC, dI) 18 a (wdM cI cZ a hh σ) s.heap H locs → lv_has ls 6 [(0, .ref (a 0)), (1, .int y1), (2, .int y2), (3, .int y3), (4, .int y4)] → W p l e rmX6_firstStuck s m args below meth c H locs 0 0 Q (F0 m 10 ls []) := by
    intro  n
    induction n with
    | zero => intro y1 y2 y3 y4 H locs ls h; exact nomatch h
    | succ n ih => exact s10  (fX6_firstStuck_l10 σ  n) ih
  unfold fX6_firstStuck at h
  refine lv_iconst (v := (-1 : Int32)) hx hb dX6_firstStuck_0 (by decide) ?_
  refine lv_istore_n (lv' := [(3, .int (-1 : Int32)), (0, .ref (a 0)), (1, .int x1), (2, .int x2)]) hx hb dX6_firstStuck_1 rfl hl (by decide) rfl (fun ls hl => ?_)
  refine lv_aload_n hx hb dX6_firstStuck_2 rfl (lv_at hl 1 rfl) ?_
  refine va_get (v := .int (σ 41 0)) hx hb hts inX6_firstStuck_X6 hown hKK.1 hz.1 0 rfl rfl 2 (by decide) (hts _ (List.mem_of_getElem? (i := 1) rfl)) (fun _ h9 => h9) rfl dX6_firstStuck_3 ?_
  refine lv_iconst (v := (1 : Int32)) hx hb dX6_firstStuck_6 (by decide) ?_
  refine lv_isub hx hb dX6_firstStuck_7 ?_
  refine lv_istore (lv' := [(4, .int ((σ 41 0) - (1 : Int32))), (3, .int (-1 : Int32)), (0, .ref (a 0)), (1, .int x1), (2, .int x2)]) hx hb dX6_firstStuck_8 hl (by decide) rfl (fun ls hl => ?_)
  exact l10  FU x1 x2 (-1 : Int32) ((σ 41 0) - (1 : Int32)) _ _ _ h hz (lv_sub hl [2, 3, 4, 1, 0] rfl)
def fX6_fails (σ : St) (x1 : Int32) (x2 : Int32) : Option (Int32 × St) :=
  some ((0 : Int32), (si (si (si σ 53 (0 : Int32)) 54 x1) 55 x2))
abbrev rmX6_fails : Room := { frames := 0, cells := 0, slots := 0, locals := 0 }
set_option maxHeartbeats 4000000 in
set_option maxRecDepth 100000 in
theorem KX6_fails {l : Launch} {dC : Nat → ClassId} {dI : Nat → Nat → Nat} {cI cZ : ClassId} {a : Nat → Nat} {hh : Int64} {σ : St} {x1 : Int32} {x2 : Int32} {r : Int32} {σ2 : St} (hok : okA 18 a) (h : fX6_fails σ x1 x2 = some (r, σ2)) (sz : Nat) : Met l yX6_fails wsX6_fails rmX6_fails (Pz (dC, dI) cI cZ (wdM cI cZ a hh σ) sz [.ref (a 0), .int x1, .int x2]) (Qzi (dC, dI) 18 a (wdM cI cZ a hh σ2) sz r) 0 0 (aN 18 a sz) := by
  refine Met.ofW (cc := cX6_fails) (maxL := 3) (ret := (some .boolean)) (by decide) rfl ?_
  intro p e s m args below meth c s₁ B hml hv
  obtain ⟨hav, hsz, hP, hKK⟩ := hv
  have hx := B.exec
  have hb := B.bytes
  have hr := B.returns
  have hts := atoms_spec (ws := wsX6_fails) B.pre
  have hown : s.vm.findClass RX6 = some m.cls := findClass_of_methodNamed B.named
  have hlocks := B.notSynchronized
  have CF : CallFix p m c cX6_fails 3 s args wsX6_fails RX6 := ⟨hx, hb, hml, hown, hts⟩
  have hz : zz (dC, dI) 18 a (wdM cI cZ a hh σ) s.heap s.heap [] := ⟨hP, va_S.rf⟩
  have hl := lv_entry [.ref (a 0), .int x1, .int x2] (n := 3) (Nat.le_of_ble_eq_true rfl)
  have hen : entryFrame m args 3 = entryFrame m ([.ref (a 0), .int x1, .int x2] : List Value).toArray 3 := by rw [hav]
  rw [hen, lg_entry_eq]
  generalize (lg_sl [.ref (a 0), .int x1, .int x2] ++ List.replicate (3 - (lg_sl [.ref (a 0), .int x1, .int x2]).length) Slot.unset).toArray = ls at hl ⊢
  have hl : lv_has ls 3 [(0, .ref (a 0)), (1, .int x1), (2, .int x2)] := hl
  have eR : (headSpec wsX6_fails rmX6_fails).room = rmX6_fails := rfl
  rw [eR]
  have rt : ∀ (v : Int32) (t : St) (pc : Nat) (H : Heap) (locs : List Loc) (ls : Array Slot), decode cX6_fails pc = .ok (.ireturn, 1) → some (v, t) = some (r, σ2) → zz (dC, dI) 18 a (wdM cI cZ a hh t) s.heap H locs → (v = 0 ∨ v = 1) → W p l e rmX6_fails s m args below meth c H locs 0 0 (MQ below (Qzi (dC, dI) 18 a (wdM cI cZ a hh σ2) sz r) args s 0 0 (aN 18 a sz)) (F0 m pc ls [.int v]) := by
    intro v t pc H locs ls hd h hz hv
    cases h
    exact zzret hsz hx hb hr hlocks hv hz hd
  generalize (MQ below (Qzi (dC, dI) 18 a (wdM cI cZ a hh σ2) sz r) args s 0 0 (aN 18 a sz)) = Q at rt ⊢
  unfold fX6_fails at h
  refine lv_aload_n hx hb dX6_fails_0 rfl (lv_at hl 0 rfl) ?_
  refine lv_iconst (v := (0 : Int32)) hx hb dX6_fails_1 (by decide) ?_
  refine zput (ty := .boolean) (w' := wdM cI cZ a hh (si σ 53 (0 : Int32))) hx hb hts inX6_fails_X6 tyX6 tyX6_ok nmX6 hown hKK hok wkM hz 0 rfl rfl 30 (by decide) (hts _ (List.mem_of_getElem? (i := 1) rfl)) (fun _ h9 => h9) rfl rfl (by decide) (by decide) (Nat.le_of_ble_eq_true rfl) setMi_53 dX6_fails_2 (fun H locs hz => ?_)
  refine lv_aload_n hx hb dX6_fails_5 rfl (lv_at hl 0 rfl) ?_
  refine lv_iload_n hx hb dX6_fails_6 rfl (lv_at hl 1 rfl) ?_
  refine zput (ty := .int) (w' := wdM cI cZ a hh (si (si σ 53 (0 : Int32)) 54 x1)) hx hb hts inX6_fails_X6 tyX6 tyX6_ok nmX6 hown hKK hok wkM hz 0 rfl rfl 31 (by decide) (hts _ (List.mem_of_getElem? (i := 2) rfl)) (fun _ h9 => h9) rfl rfl rfl rfl (Nat.le_of_ble_eq_true rfl) setMi_54 dX6_fails_7 (fun H locs hz => ?_)
  refine lv_aload_n hx hb dX6_fails_10 rfl (lv_at hl 0 rfl) ?_
  refine lv_iload_n hx hb dX6_fails_11 rfl (lv_at hl 2 rfl) ?_
  refine zput (ty := .int) (w' := wdM cI cZ a hh (si (si (si σ 53 (0 : Int32)) 54 x1) 55 x2)) hx hb hts inX6_fails_X6 tyX6 tyX6_ok nmX6 hown hKK hok wkM hz 0 rfl rfl 32 (by decide) (hts _ (List.mem_of_getElem? (i := 3) rfl)) (fun _ h9 => h9) rfl rfl rfl rfl (Nat.le_of_ble_eq_true rfl) setMi_55 dX6_fails_12 (fun H locs hz => ?_)
  refine lv_iconst (v := (0 : Int32)) hx hb dX6_fails_15 (by decide) ?_
  exact rt (0 : Int32) (si (si (si σ 53 (0 : Int32)) 54 x1) 55 x2) 16 _ _ _ dX6_fails_16 h hz (Or.inl rfl)
