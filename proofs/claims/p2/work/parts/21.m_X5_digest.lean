def fX5_digest_s84 (σ : St) (k84 : Int64 → Int32 → Option (Int64)) (y1 : Int64) (y3 : Int32) : Option (Int64) :=
  (if (8 : Int32) ≤ y3 then (some y1) else ((bd1 (fX5_count σ y3) fun r16 => k84 (((31 : Int64) * y1) + (Int32.toInt64 r16)) (y3 + (1 : Int32)))))
def fX5_digest_l84 (σ : St)  : Nat → Int64 → Int32 → Option (Int64) :=
  itr (fX5_digest_s84 σ ) (fun _ _ => none)
def fX5_digest_s49 (σ : St) (k49 : Int64 → Int32 → Option (Int64)) (y1 : Int64) (y3 : Int32) : Option (Int64) :=
  (bd1 (fX1_length σ ) fun r11 => (if r11 ≤ y3 then (fX5_digest_l84 σ  FU y1 (0 : Int32)) else ((bd1 (fX1_letterAt σ y3) fun r19 => k49 (((31 : Int64) * y1) + (Int32.toInt64 r19)) (y3 + (1 : Int32))))))
def fX5_digest_l49 (σ : St)  : Nat → Int64 → Int32 → Option (Int64) :=
  itr (fX5_digest_s49 σ ) (fun _ _ => none)
def fX5_digest_s22 (σ : St) (k22 : Int64 → Int32 → Option (Int64)) (y1 : Int64) (y3 : Int32) : Option (Int64) :=
  (if (9 : Int32) ≤ y3 then (fX5_digest_l49 σ  FU y1 (0 : Int32)) else ((bd1 (fX5_placed σ y3) fun r22 => k22 (((31 : Int64) * y1) + (Int32.toInt64 r22)) (y3 + (1 : Int32)))))
def fX5_digest_l22 (σ : St)  : Nat → Int64 → Int32 → Option (Int64) :=
  itr (fX5_digest_s22 σ ) (fun _ _ => none)
def fX5_digest (σ : St)  : Option (Int64) :=
  (bd1 (fX5_digestItems σ (1637 : Int64)) fun r1 => (bd1 (fX5_digestIslands σ r1) fun r4 => (bd1 (fX5_digestConstants σ r4) fun r7 => fX5_digest_l22 σ  FU r7 (0 : Int32))))
abbrev rmX5_digest : Room := { frames := 5, cells := 0, slots := 0, locals := 116 }
set_option maxHeartbeats 4000000 in
set_option maxRecDepth 100000 in
theorem KX5_digest {l : Launch} {dC : Nat → ClassId} {dI : Nat → Nat → Nat} {cI cZ : ClassId} {a : Nat → Nat} {σ : St}  {r : Int64} (hok : okA 30 a) (h : fX5_digest σ  = some r) (sz : Nat) : Met l yX5_digest wsX5_digest rmX5_digest (Pz (dC, dI) cI cZ (wdC cI cZ a σ) sz [.ref (a 0)]) (Qzl (dC, dI) 30 a (wdC cI cZ a σ) sz r) 0 0 (aN 30 a sz) := by
  refine Met.ofW (cc := cX5_digest) (maxL := 4) (ret := (some .long)) (by decide) rfl ?_
  intro p e s m args below meth c s₁ B hml hv
  obtain ⟨hav, hsz, hP, hKK⟩ := hv
  have hx := B.exec
  have hb := B.bytes
  have hr := B.returns
  have hts := atoms_spec (ws := wsX5_digest) B.pre
  have hown : s.vm.findClass RX5 = some m.cls := findClass_of_methodNamed B.named
  have hlocks := B.notSynchronized
  have CF : CallFix p m c cX5_digest 4 s args wsX5_digest RX5 := ⟨hx, hb, hml, hown, hts⟩
  have hz : zz (dC, dI) 30 a (wdC cI cZ a σ) s.heap s.heap [] := ⟨hP, va_S.rf⟩
  have hl := lv_entry [.ref (a 0)] (n := 4) (Nat.le_of_ble_eq_true rfl)
  have hen : entryFrame m args 4 = entryFrame m ([.ref (a 0)] : List Value).toArray 4 := by rw [hav]
  rw [hen, lg_entry_eq]
  generalize (lg_sl [.ref (a 0)] ++ List.replicate (4 - (lg_sl [.ref (a 0)]).length) Slot.unset).toArray = ls at hl ⊢
  have hl : lv_has ls 4 [(0, .ref (a 0))] := hl
  have eR : (headSpec wsX5_digest rmX5_digest).room = rmX5_digest := rfl
  rw [eR]
  have rt : ∀ (v : Int64) (t : St) (pc : Nat) (H : Heap) (locs : List Loc) (ls : Array Slot), decode cX5_digest pc = .ok (.lreturn, 1) → some v = some r → zz (dC, dI) 30 a (wdC cI cZ a σ) s.heap H locs → W p l e rmX5_digest s m args below meth c H locs 0 0 (MQ below (Qzl (dC, dI) 30 a (wdC cI cZ a σ) sz r) args s 0 0 (aN 30 a sz)) (F0 m pc ls [.long v]) := by
    intro v t pc H locs ls hd h hz
    cases h
    exact zlret hsz hx hb hr hlocks hz hd
  generalize (MQ below (Qzl (dC, dI) 30 a (wdC cI cZ a σ) sz r) args s 0 0 (aN 30 a sz)) = Q at rt ⊢
  have s84 : ∀ (k84 : Int64 → Int32 → Option (Int64)) (hk84 : (∀ (y1 : Int64) (y3 : Int32) (H : Heap) (locs : List Loc) (ls : Array Slot), k84 y1 y3 = some r → zz (dC, dI) 30 a (wdC cI cZ a σ) s.heap H locs → lv_has ls 4 [(0, .ref (a 0)), (1, .long y1), (3, .int y3)] → W p l e rmX5_digest s m args below meth c H locs 0 0 Q (F0 m 84 ls []))) (y1 : Int64) (y3 : Int32) (H : Heap) (locs : List Loc) (ls : Array Slot), fX5_digest_s84 σ k84 y1 y3 = some r → zz (dC, dI) 30 a (wdC cI cZ a σ) s.heap H locs → lv_has ls 4 [(0, .ref (a 0)), (1, .long y1), (3, .int y3)] → W p l e rmX5_digest s m args below meth c H locs 0 0 Q (F0 m 84 ls []) := by
    intro k84 hk84 y1 y3 H locs ls h hz hl
    unfold fX5_digest_s84 at h
    refine lv_iload_n hx hb dX5_digest_84 rfl (lv_at hl 2 rfl) ?_
    refine lv_bipush (v := (8 : Int32)) hx hb dX5_digest_85 (by decide) ?_
    refine lv_icmp_ge (tgt := 109) hx hb dX5_digest_87 (by decide) (fun c15 => ?_) (fun c15 => ?_)
    · replace h := ite_t c15 h
      refine lv_lload_n hx hb dX5_digest_109 rfl (lv_at hl 1 rfl) ?_
      exact rt y1 σ 110 _ _ _ dX5_digest_110 h hz
    · replace h := ite_f c15 h
      refine lv_ldc2 (v := (31 : Int64)) hx hb hown (hts _ (List.mem_of_getElem? (i := 2) rfl)) dX5_digest_90 ?_
      refine lv_lload_n hx hb dX5_digest_93 rfl (lv_at hl 1 rfl) ?_
      refine lv_lmul hx hb dX5_digest_94 ?_
      refine lv_aload_n hx hb dX5_digest_95 rfl (lv_at hl 0 rfl) ?_
      refine lv_iload_n hx hb dX5_digest_96 rfl (lv_at hl 2 rfl) ?_
      obtain ⟨r16, e18, h⟩ := bd1_e h
      refine zcallVi (As := [.int y3]) (rest := [.long ((31 : Int64) * y1)]) CF hKK (KX5_count (dC := dC) (dI := dI) (cI := cI) (cZ := cZ) (a := a) hok e18) (cwV 1 hts gX5_digest_X5_count rfl rfl rfl cdX5_count ⟨Nat.le_of_ble_eq_true rfl, Nat.le_of_ble_eq_true rfl⟩) 0 5 rfl rfl hz rfl hl.1 rfl (Nat.le_of_ble_eq_true rfl) dX5_digest_97 ⟨Nat.le_refl _, Nat.le_refl _⟩ (fun H locs hz => ?_)
      refine lv_i2l (v := (Int32.toInt64 r16)) hx hb dX5_digest_100 rfl ?_
      refine lv_ladd hx hb dX5_digest_101 ?_
      refine lv_lstore_n (lv' := [(1, .long (((31 : Int64) * y1) + (Int32.toInt64 r16))), (0, .ref (a 0)), (3, .int y3)]) hx hb dX5_digest_102 rfl hl (by decide) rfl (fun ls hl => ?_)
      refine lv_iinc (v := (y3 + (1 : Int32))) (lv' := [(3, .int (y3 + (1 : Int32))), (1, .long (((31 : Int64) * y1) + (Int32.toInt64 r16))), (0, .ref (a 0))]) hx hb dX5_digest_103 hl (k := 2) rfl rfl (by decide) rfl (fun ls hl => ?_)
      refine lv_goto (tgt := 84) hx hb dX5_digest_106 (by decide) ?_
      exact hk84 (((31 : Int64) * y1) + (Int32.toInt64 r16)) (y3 + (1 : Int32)) _ _ _ h hz (lv_sub hl [2, 1, 0] rfl)
  have l84 : ∀  (n : Nat), ∀ (y1 : Int64) (y3 : Int32) (H : Heap) (locs : List Loc) (ls : Array Slot), fX5_digest_l84 σ  n y1 y3 = some r → zz (dC, dI) 30 a (wdC cI cZ a σ) s.heap H locs → lv_has ls 4 [(0, .ref (a 0)), (1, .long y1), (3, .int y3)] → W p l e rmX5_digest s m args below meth c H locs 0 0 Q (F0 m 84 ls []) := by
    intro  n
    induction n with
    | zero => intro y1 y3 H locs ls h; exact nomatch h
    | succ n ih => exact s84  (fX5_digest_l84 σ  n) ih
  have s49 : ∀ (k49 : Int64 → Int32 → Option (Int64)) (hk49 : (∀ (y1 : Int64) (y3 : Int32) (H : Heap) (locs : List Loc) (ls : Array Slot), k49 y1 y3 = some r → zz (dC, dI) 30 a (wdC cI cZ a σ) s.heap H locs → lv_has ls 4 [(0, .ref (a 0)), (1, .long y1), (3, .int y3)] → W p l e rmX5_digest s m args below meth c H locs 0 0 Q (F0 m 49 ls []))) (y1 : Int64) (y3 : Int32) (H : Heap) (locs : List Loc) (ls : Array Slot), fX5_digest_s49 σ k49 y1 y3 = some r → zz (dC, dI) 30 a (wdC cI cZ a σ) s.heap H locs → lv_has ls 4 [(0, .ref (a 0)), (1, .long y1), (3, .int y3)] → W p l e rmX5_digest s m args below meth c H locs 0 0 Q (F0 m 49 ls []) := by
    intro k49 hk49 y1 y3 H locs ls h hz hl
    unfold fX5_digest_s49 at h
    refine lv_iload_n hx hb dX5_digest_49 rfl (lv_at hl 2 rfl) ?_
    refine lv_aload_n hx hb dX5_digest_50 rfl (lv_at hl 0 rfl) ?_
    refine va_get (v := .ref (a 1)) hx hb hts inX5_digest_X5 hown hKK.1 hz.1 0 rfl rfl 0 (by decide) (hts _ (List.mem_of_getElem? (i := 3) rfl)) (fun _ h9 => h9) rfl dX5_digest_51 ?_
    obtain ⟨r11, e13, h⟩ := bd1_e h
    refine zcallVi (As := []) (rest := [.int y3]) CF hKK (KX1_length (dC := dC) (dI := dI) (cI := cI) (cZ := cZ) (a := a) hok e13) (cwV 0 hts gX5_digest_X1_length rfl rfl rfl cdX1_length ⟨Nat.le_of_ble_eq_true rfl, Nat.le_of_ble_eq_true rfl⟩) 1 1 rfl rfl hz rfl hl.1 rfl (Nat.le_of_ble_eq_true rfl) dX5_digest_54 ⟨Nat.le_refl _, Nat.le_refl _⟩ (fun H locs hz => ?_)
    refine lv_icmp_ge (tgt := 82) hx hb dX5_digest_57 (by decide) (fun c14 => ?_) (fun c14 => ?_)
    · replace h := ite_t c14 h
      refine lv_iconst (v := (0 : Int32)) hx hb dX5_digest_82 (by decide) ?_
      refine lv_istore_n (lv' := [(3, .int (0 : Int32)), (0, .ref (a 0)), (1, .long y1)]) hx hb dX5_digest_83 rfl hl (by decide) rfl (fun ls hl => ?_)
      exact l84  FU y1 (0 : Int32) _ _ _ h hz (lv_sub hl [1, 2, 0] rfl)
    · replace h := ite_f c14 h
      refine lv_ldc2 (v := (31 : Int64)) hx hb hown (hts _ (List.mem_of_getElem? (i := 2) rfl)) dX5_digest_60 ?_
      refine lv_lload_n hx hb dX5_digest_63 rfl (lv_at hl 1 rfl) ?_
      refine lv_lmul hx hb dX5_digest_64 ?_
      refine lv_aload_n hx hb dX5_digest_65 rfl (lv_at hl 0 rfl) ?_
      refine va_get (v := .ref (a 1)) hx hb hts inX5_digest_X5 hown hKK.1 hz.1 0 rfl rfl 0 (by decide) (hts _ (List.mem_of_getElem? (i := 3) rfl)) (fun _ h9 => h9) rfl dX5_digest_66 ?_
      refine lv_iload_n hx hb dX5_digest_69 rfl (lv_at hl 2 rfl) ?_
      obtain ⟨r19, e21, h⟩ := bd1_e h
      refine zcallVi (As := [.int y3]) (rest := [.long ((31 : Int64) * y1)]) CF hKK (KX1_letterAt (dC := dC) (dI := dI) (cI := cI) (cZ := cZ) (a := a) hok e21) (cwV 1 hts gX5_digest_X1_letterAt rfl rfl rfl cdX1_letterAt ⟨Nat.le_of_ble_eq_true rfl, Nat.le_of_ble_eq_true rfl⟩) 1 1 rfl rfl hz rfl hl.1 rfl (Nat.le_of_ble_eq_true rfl) dX5_digest_70 ⟨Nat.le_refl _, Nat.le_refl _⟩ (fun H locs hz => ?_)
      refine lv_i2l (v := (Int32.toInt64 r19)) hx hb dX5_digest_73 rfl ?_
      refine lv_ladd hx hb dX5_digest_74 ?_
      refine lv_lstore_n (lv' := [(1, .long (((31 : Int64) * y1) + (Int32.toInt64 r19))), (0, .ref (a 0)), (3, .int y3)]) hx hb dX5_digest_75 rfl hl (by decide) rfl (fun ls hl => ?_)
      refine lv_iinc (v := (y3 + (1 : Int32))) (lv' := [(3, .int (y3 + (1 : Int32))), (1, .long (((31 : Int64) * y1) + (Int32.toInt64 r19))), (0, .ref (a 0))]) hx hb dX5_digest_76 hl (k := 2) rfl rfl (by decide) rfl (fun ls hl => ?_)
      refine lv_goto (tgt := 49) hx hb dX5_digest_79 (by decide) ?_
      exact hk49 (((31 : Int64) * y1) + (Int32.toInt64 r19)) (y3 + (1 : Int32)) _ _ _ h hz (lv_sub hl [2, 1, 0] rfl)
  have l49 : ∀  (n : Nat), ∀ (y1 : Int64) (y3 : Int32) (H : Heap) (locs : List Loc) (ls : Array Slot), fX5_digest_l49 σ  n y1 y3 = some r → zz (dC, dI) 30 a (wdC cI cZ a σ) s.heap H locs → lv_has ls 4 [(0, .ref (a 0)), (1, .long y1), (3, .int y3)] → W p l e rmX5_digest s m args below meth c H locs 0 0 Q (F0 m 49 ls []) := by
    intro  n
    induction n with
    | zero => intro y1 y3 H locs ls h; exact nomatch h
    | succ n ih => exact s49  (fX5_digest_l49 σ  n) ih
  have s22 : ∀ (k22 : Int64 → Int32 → Option (Int64)) (hk22 : (∀ (y1 : Int64) (y3 : Int32) (H : Heap) (locs : List Loc) (ls : Array Slot), k22 y1 y3 = some r → zz (dC, dI) 30 a (wdC cI cZ a σ) s.heap H locs → lv_has ls 4 [(0, .ref (a 0)), (1, .long y1), (3, .int y3)] → W p l e rmX5_digest s m args below meth c H locs 0 0 Q (F0 m 22 ls []))) (y1 : Int64) (y3 : Int32) (H : Heap) (locs : List Loc) (ls : Array Slot), fX5_digest_s22 σ k22 y1 y3 = some r → zz (dC, dI) 30 a (wdC cI cZ a σ) s.heap H locs → lv_has ls 4 [(0, .ref (a 0)), (1, .long y1), (3, .int y3)] → W p l e rmX5_digest s m args below meth c H locs 0 0 Q (F0 m 22 ls []) := by
    intro k22 hk22 y1 y3 H locs ls h hz hl
    unfold fX5_digest_s22 at h
    refine lv_iload_n hx hb dX5_digest_22 rfl (lv_at hl 2 rfl) ?_
    refine lv_bipush (v := (9 : Int32)) hx hb dX5_digest_23 (by decide) ?_
    refine lv_icmp_ge (tgt := 47) hx hb dX5_digest_25 (by decide) (fun c10 => ?_) (fun c10 => ?_)
    · replace h := ite_t c10 h
      refine lv_iconst (v := (0 : Int32)) hx hb dX5_digest_47 (by decide) ?_
      refine lv_istore_n (lv' := [(3, .int (0 : Int32)), (0, .ref (a 0)), (1, .long y1)]) hx hb dX5_digest_48 rfl hl (by decide) rfl (fun ls hl => ?_)
      exact l49  FU y1 (0 : Int32) _ _ _ h hz (lv_sub hl [1, 2, 0] rfl)
    · replace h := ite_f c10 h
      refine lv_ldc2 (v := (31 : Int64)) hx hb hown (hts _ (List.mem_of_getElem? (i := 2) rfl)) dX5_digest_28 ?_
      refine lv_lload_n hx hb dX5_digest_31 rfl (lv_at hl 1 rfl) ?_
      refine lv_lmul hx hb dX5_digest_32 ?_
      refine lv_aload_n hx hb dX5_digest_33 rfl (lv_at hl 0 rfl) ?_
      refine lv_iload_n hx hb dX5_digest_34 rfl (lv_at hl 2 rfl) ?_
      obtain ⟨r22, e24, h⟩ := bd1_e h
      refine zcallVi (As := [.int y3]) (rest := [.long ((31 : Int64) * y1)]) CF hKK (KX5_placed (dC := dC) (dI := dI) (cI := cI) (cZ := cZ) (a := a) hok e24) (cwV 1 hts gX5_digest_X5_placed rfl rfl rfl cdX5_placed ⟨Nat.le_of_ble_eq_true rfl, Nat.le_of_ble_eq_true rfl⟩) 0 5 rfl rfl hz rfl hl.1 rfl (Nat.le_of_ble_eq_true rfl) dX5_digest_35 ⟨Nat.le_refl _, Nat.le_refl _⟩ (fun H locs hz => ?_)
      refine lv_i2l (v := (Int32.toInt64 r22)) hx hb dX5_digest_38 rfl ?_
      refine lv_ladd hx hb dX5_digest_39 ?_
      refine lv_lstore_n (lv' := [(1, .long (((31 : Int64) * y1) + (Int32.toInt64 r22))), (0, .ref (a 0)), (3, .int y3)]) hx hb dX5_digest_40 rfl hl (by decide) rfl (fun ls hl => ?_)
      refine lv_iinc (v := (y3 + (1 : Int32))) (lv' := [(3, .int (y3 + (1 : Int32))), (1, .long (((31 : Int64) * y1) + (Int32.toInt64 r22))), (0, .ref (a 0))]) hx hb dX5_digest_41 hl (k := 2) rfl rfl (by decide) rfl (fun ls hl => ?_)
      refine lv_goto (tgt := 22) hx hb dX5_digest_44 (by decide) ?_
      exact hk22 (((31 : Int64) * y1) + (Int32.toInt64 r22)) (y3 + (1 : Int32)) _ _ _ h hz (lv_sub hl [2, 1, 0] rfl)
  have l22 : ∀  (n : Nat), ∀ (y1 : Int64) (y3 : Int32) (H : Heap) (locs : List Loc) (ls : Array Slot), fX5_digest_l22 σ  n y1 y3 = some r → zz (dC, dI) 30 a (wdC cI cZ a σ) s.heap H locs → lv_has ls 4 [(0, .ref (a 0)), (1, .long y1), (3, .int y3)] → W p l e rmX5_digest s m args below meth c H locs 0 0 Q (F0 m 22 ls []) := by
    intro  n
    induction n with
    | zero => intro y1 y3 H locs ls h; exact nomatch h
    | succ n ih => exact s22  (fX5_digest_l22 σ  n) ih
  unfold fX5_digest at h
  refine lv_aload_n hx hb dX5_digest_0 rfl (lv_at hl 0 rfl) ?_
  refine lv_ldc2 (v := (1637 : Int64)) hx hb hown (hts _ (List.mem_of_getElem? (i := 1) rfl)) dX5_digest_1 ?_
  obtain ⟨r1, e3, h⟩ := bd1_e h
  refine zcallVl (As := [.long (1637 : Int64)]) (rest := []) CF hKK (KX5_digestItems (dC := dC) (dI := dI) (cI := cI) (cZ := cZ) (a := a) hok e3) (cwV 1 hts gX5_digest_X5_digestItems rfl rfl rfl cdX5_digestItems ⟨Nat.le_of_ble_eq_true rfl, Nat.le_of_ble_eq_true rfl⟩) 0 5 rfl rfl hz rfl hl.1 rfl (Nat.le_of_ble_eq_true rfl) dX5_digest_4 ⟨Nat.le_refl _, Nat.le_refl _⟩ (fun H locs hz => ?_)
  refine lv_lstore_n (lv' := [(1, .long r1), (0, .ref (a 0))]) hx hb dX5_digest_7 rfl hl (by decide) rfl (fun ls hl => ?_)
  refine lv_aload_n hx hb dX5_digest_8 rfl (lv_at hl 1 rfl) ?_
  refine lv_lload_n hx hb dX5_digest_9 rfl (lv_at hl 0 rfl) ?_
  obtain ⟨r4, e6, h⟩ := bd1_e h
  refine zcallVl (As := [.long r1]) (rest := []) CF hKK (KX5_digestIslands (dC := dC) (dI := dI) (cI := cI) (cZ := cZ) (a := a) hok e6) (cwV 1 hts gX5_digest_X5_digestIslands rfl rfl rfl cdX5_digestIslands ⟨Nat.le_of_ble_eq_true rfl, Nat.le_of_ble_eq_true rfl⟩) 0 5 rfl rfl hz rfl hl.1 rfl (Nat.le_of_ble_eq_true rfl) dX5_digest_10 ⟨Nat.le_refl _, Nat.le_refl _⟩ (fun H locs hz => ?_)
  refine lv_lstore_n (lv' := [(1, .long r4), (0, .ref (a 0))]) hx hb dX5_digest_13 rfl hl (by decide) rfl (fun ls hl => ?_)
  refine lv_aload_n hx hb dX5_digest_14 rfl (lv_at hl 1 rfl) ?_
  refine lv_lload_n hx hb dX5_digest_15 rfl (lv_at hl 0 rfl) ?_
  obtain ⟨r7, e9, h⟩ := bd1_e h
  refine zcallVl (As := [.long r4]) (rest := []) CF hKK (KX5_digestConstants (dC := dC) (dI := dI) (cI := cI) (cZ := cZ) (a := a) hok e9) (cwV 1 hts gX5_digest_X5_digestConstants rfl rfl rfl cdX5_digestConstants ⟨Nat.le_of_ble_eq_true rfl, Nat.le_of_ble_eq_true rfl⟩) 0 5 rfl rfl hz rfl hl.1 rfl (Nat.le_of_ble_eq_true rfl) dX5_digest_16 ⟨Nat.le_refl _, Nat.le_refl _⟩ (fun H locs hz => ?_)
  refine lv_lstore_n (lv' := [(1, .long r7), (0, .ref (a 0))]) hx hb dX5_digest_19 rfl hl (by decide) rfl (fun ls hl => ?_)
  refine lv_iconst (v := (0 : Int32)) hx hb dX5_digest_20 (by decide) ?_
  refine lv_istore_n (lv' := [(3, .int (0 : Int32)), (1, .long r7), (0, .ref (a 0))]) hx hb dX5_digest_21 rfl hl (by decide) rfl (fun ls hl => ?_)
  exact l22  FU r7 (0 : Int32) _ _ _ h hz (lv_sub hl [2, 1, 0] rfl)
