def fX6_digest_s162 (σ : St) (k162 : Int64 → Int32 → Option (Int64 × Int64)) (hh : Int64) (y1 : Int32) : Option (Int64 × Int64) :=
  (if (8 : Int32) ≤ y1 then (some (hh, hh)) else ((bd1 (fX6_howMany σ y1) fun r7 => (bd1 (fX6_mix σ hh (Int32.toInt64 r7)) fun s11 => k162 s11 (y1 + (1 : Int32))))))
def fX6_digest_l162 (σ : St)  : Nat → Int64 → Int32 → Option (Int64 × Int64) :=
  itr (fX6_digest_s162 σ ) (fun _ _ => none)
def fX6_digest_s135 (σ : St) (k135 : Int64 → Int32 → Option (Int64 × Int64)) (hh : Int64) (y1 : Int32) : Option (Int64 × Int64) :=
  (if (σ 40 0) ≤ y1 then (fX6_digest_l162 σ  FU hh (0 : Int32)) else ((ck (¬ (y1 < 0 ∨ 50 ≤ Int32.toNatClampNeg y1)) <| (bd1 (fX6_mix σ hh (Int32.toInt64 ((σ 1) (Int32.toNatClampNeg y1)))) fun s15 => k135 s15 (y1 + (1 : Int32))))))
def fX6_digest_l135 (σ : St)  : Nat → Int64 → Int32 → Option (Int64 × Int64) :=
  itr (fX6_digest_s135 σ ) (fun _ _ => none)
def fX6_digest_s111 (σ : St) (k111 : Int64 → Int32 → Option (Int64 × Int64)) (hh : Int64) (y1 : Int32) : Option (Int64 × Int64) :=
  (if (9 : Int32) ≤ y1 then (fX6_digest_l135 σ  FU hh (0 : Int32)) else ((bd1 (fX6_placedNow σ y1) fun r17 => (bd1 (fX6_mix σ hh (Int32.toInt64 r17)) fun s21 => k111 s21 (y1 + (1 : Int32))))))
def fX6_digest_l111 (σ : St)  : Nat → Int64 → Int32 → Option (Int64 × Int64) :=
  itr (fX6_digest_s111 σ ) (fun _ _ => none)
def fX6_digest_s78 (σ : St) (k78 : Int64 → Int32 → Option (Int64 × Int64)) (hh : Int64) (y1 : Int32) : Option (Int64 × Int64) :=
  (if ((4 : Int32) * (σ 49 0)) ≤ y1 then (fX6_digest_l111 σ  FU hh (0 : Int32)) else ((bd1 (fX6_constantNow σ (y1 / (4 : Int32)) (y1 - y1 / (4 : Int32) * (4 : Int32))) fun r23 => (bd1 (fX6_mix σ hh (Int32.toInt64 r23)) fun s27 => k78 s27 (y1 + (1 : Int32))))))
def fX6_digest_l78 (σ : St)  : Nat → Int64 → Int32 → Option (Int64 × Int64) :=
  itr (fX6_digest_s78 σ ) (fun _ _ => none)
def fX6_digest_s45 (σ : St) (k45 : Int64 → Int32 → Option (Int64 × Int64)) (hh : Int64) (y1 : Int32) : Option (Int64 × Int64) :=
  (if ((4 : Int32) * (σ 48 0)) ≤ y1 then (fX6_digest_l78 σ  FU hh (0 : Int32)) else ((bd1 (fX6_islandNow σ (y1 / (4 : Int32)) (y1 - y1 / (4 : Int32) * (4 : Int32))) fun r29 => (bd1 (fX6_mix σ hh (Int32.toInt64 r29)) fun s33 => k45 s33 (y1 + (1 : Int32))))))
def fX6_digest_l45 (σ : St)  : Nat → Int64 → Int32 → Option (Int64 × Int64) :=
  itr (fX6_digest_s45 σ ) (fun _ _ => none)
def fX6_digest_s9 (σ : St) (k9 : Int64 → Int32 → Option (Int64 × Int64)) (hh : Int64) (y1 : Int32) : Option (Int64 × Int64) :=
  (if ((6 : Int32) * (σ 41 0)) ≤ y1 then (fX6_digest_l45 σ  FU hh (0 : Int32)) else ((bd1 (fX6_itemNow σ (y1 / (6 : Int32)) (y1 - y1 / (6 : Int32) * (6 : Int32))) fun r35 => (bd1 (fX6_mix σ hh (Int32.toInt64 r35)) fun s39 => k9 s39 (y1 + (1 : Int32))))))
def fX6_digest_l9 (σ : St)  : Nat → Int64 → Int32 → Option (Int64 × Int64) :=
  itr (fX6_digest_s9 σ ) (fun _ _ => none)
def fX6_digest (σ : St) (hh : Int64)  : Option (Int64 × Int64) :=
  fX6_digest_l9 σ  FU (1637 : Int64) (0 : Int32)
abbrev rmX6_digest : Room := { frames := 5, cells := 0, slots := 0, locals := 114 }
set_option maxHeartbeats 4000000 in
set_option maxRecDepth 100000 in
theorem KX6_digest {l : Launch} {dC : Nat → ClassId} {dI : Nat → Nat → Nat} {cI cZ : ClassId} {a : Nat → Nat} {hh : Int64} {σ : St}  {r h2 : Int64} (hok : okA 18 a) (h : fX6_digest σ hh  = some (r, h2)) (sz : Nat) : Met l yX6_digest wsX6_digest rmX6_digest (Pz (dC, dI) cI cZ (wdM cI cZ a hh σ) sz [.ref (a 0)]) (Qzl (dC, dI) 18 a (wdM cI cZ a h2 σ) sz r) 0 0 (aN 18 a sz) := by
  refine Met.ofW (cc := cX6_digest) (maxL := 2) (ret := (some .long)) (by decide) rfl ?_
  intro p e s m args below meth c s₁ B hml hv
  obtain ⟨hav, hsz, hP, hKK⟩ := hv
  have hx := B.exec
  have hb := B.bytes
  have hr := B.returns
  have hts := atoms_spec (ws := wsX6_digest) B.pre
  have hown : s.vm.findClass RX6 = some m.cls := findClass_of_methodNamed B.named
  have hlocks := B.notSynchronized
  have CF : CallFix p m c cX6_digest 2 s args wsX6_digest RX6 := ⟨hx, hb, hml, hown, hts⟩
  have hz : zz (dC, dI) 18 a (wdM cI cZ a hh σ) s.heap s.heap [] := ⟨hP, va_S.rf⟩
  have hl := lv_entry [.ref (a 0)] (n := 2) (Nat.le_of_ble_eq_true rfl)
  have hen : entryFrame m args 2 = entryFrame m ([.ref (a 0)] : List Value).toArray 2 := by rw [hav]
  rw [hen, lg_entry_eq]
  generalize (lg_sl [.ref (a 0)] ++ List.replicate (2 - (lg_sl [.ref (a 0)]).length) Slot.unset).toArray = ls at hl ⊢
  have hl : lv_has ls 2 [(0, .ref (a 0))] := hl
  have eR : (headSpec wsX6_digest rmX6_digest).room = rmX6_digest := rfl
  rw [eR]
  have rt : ∀ (v t : Int64) (pc : Nat) (H : Heap) (locs : List Loc) (ls : Array Slot), decode cX6_digest pc = .ok (.lreturn, 1) → some (v, t) = some (r, h2) → zz (dC, dI) 18 a (wdM cI cZ a t σ) s.heap H locs → W p l e rmX6_digest s m args below meth c H locs 0 0 (MQ below (Qzl (dC, dI) 18 a (wdM cI cZ a h2 σ) sz r) args s 0 0 (aN 18 a sz)) (F0 m pc ls [.long v]) := by
    intro v t pc H locs ls hd h hz
    cases h
    exact zlret hsz hx hb hr hlocks hz hd
  generalize (MQ below (Qzl (dC, dI) 18 a (wdM cI cZ a h2 σ) sz r) args s 0 0 (aN 18 a sz)) = Q at rt ⊢
  have s162 : ∀ (k162 : Int64 → Int32 → Option (Int64 × Int64)) (hk162 : (∀ (hh : Int64) (y1 : Int32) (H : Heap) (locs : List Loc) (ls : Array Slot), k162 hh y1 = some (r, h2) → zz (dC, dI) 18 a (wdM cI cZ a hh σ) s.heap H locs → lv_has ls 2 [(0, .ref (a 0)), (1, .int y1)] → W p l e rmX6_digest s m args below meth c H locs 0 0 Q (F0 m 162 ls []))) (hh : Int64) (y1 : Int32) (H : Heap) (locs : List Loc) (ls : Array Slot), fX6_digest_s162 σ k162 hh y1 = some (r, h2) → zz (dC, dI) 18 a (wdM cI cZ a hh σ) s.heap H locs → lv_has ls 2 [(0, .ref (a 0)), (1, .int y1)] → W p l e rmX6_digest s m args below meth c H locs 0 0 Q (F0 m 162 ls []) := by
    intro k162 hk162 hh y1 H locs ls h hz hl
    unfold fX6_digest_s162 at h
    refine lv_iload_n hx hb dX6_digest_162 rfl (lv_at hl 1 rfl) ?_
    refine lv_bipush (v := (8 : Int32)) hx hb dX6_digest_163 (by decide) ?_
    refine lv_icmp_ge (tgt := 184) hx hb dX6_digest_165 (by decide) (fun c6 => ?_) (fun c6 => ?_)
    · replace h := ite_t c6 h
      refine lv_aload_n hx hb dX6_digest_184 rfl (lv_at hl 0 rfl) ?_
      refine va_get (v := .long hh) hx hb hts inX6_digest_X6 hown hKK.1 hz.1 0 rfl rfl 33 (by decide) (hts _ (List.mem_of_getElem? (i := 2) rfl)) (fun _ h9 => h9) rfl dX6_digest_185 ?_
      exact rt hh hh 188 _ _ _ dX6_digest_188 h hz
    · replace h := ite_f c6 h
      refine lv_aload_n hx hb dX6_digest_168 rfl (lv_at hl 0 rfl) ?_
      refine lv_aload_n hx hb dX6_digest_169 rfl (lv_at hl 0 rfl) ?_
      refine lv_iload_n hx hb dX6_digest_170 rfl (lv_at hl 1 rfl) ?_
      obtain ⟨r7, e9, h⟩ := bd1_e h
      refine zcallVi (As := [.int y1]) (rest := [.ref (a 0)]) CF hKK (KX6_howMany (dC := dC) (dI := dI) (cI := cI) (cZ := cZ) (a := a) hok e9) (cwV 1 hts gX6_digest_X6_howMany rfl rfl rfl cdX6_howMany ⟨Nat.le_of_ble_eq_true rfl, Nat.le_of_ble_eq_true rfl⟩) 0 6 rfl rfl hz rfl hl.1 rfl (Nat.le_of_ble_eq_true rfl) dX6_digest_171 ⟨Nat.le_refl _, Nat.le_refl _⟩ (fun H locs hz => ?_)
      refine lv_i2l (v := (Int32.toInt64 r7)) hx hb dX6_digest_174 rfl ?_
      obtain ⟨s11, e12, h⟩ := bd1_e h
      refine zcallVv (As := [.long (Int32.toInt64 r7)]) (rest := []) CF hKK (KX6_mix (dC := dC) (dI := dI) (cI := cI) (cZ := cZ) (a := a) hok e12) (cwV 1 hts gX6_digest_X6_mix rfl rfl rfl cdX6_mix ⟨Nat.le_of_ble_eq_true rfl, Nat.le_of_ble_eq_true rfl⟩) 0 6 rfl rfl hz rfl hl.1 rfl (Nat.le_of_ble_eq_true rfl) dX6_digest_175 ⟨Nat.le_refl _, Nat.le_refl _⟩ (fun H locs hz => ?_)
      refine lv_iinc (v := (y1 + (1 : Int32))) (lv' := [(1, .int (y1 + (1 : Int32))), (0, .ref (a 0))]) hx hb dX6_digest_178 hl (k := 1) rfl rfl (by decide) rfl (fun ls hl => ?_)
      refine lv_goto (tgt := 162) hx hb dX6_digest_181 (by decide) ?_
      exact hk162 s11 (y1 + (1 : Int32)) _ _ _ h hz (lv_sub hl [1, 0] rfl)
  have l162 : ∀  (n : Nat), ∀ (hh : Int64) (y1 : Int32) (H : Heap) (locs : List Loc) (ls : Array Slot), fX6_digest_l162 σ  n hh y1 = some (r, h2) → zz (dC, dI) 18 a (wdM cI cZ a hh σ) s.heap H locs → lv_has ls 2 [(0, .ref (a 0)), (1, .int y1)] → W p l e rmX6_digest s m args below meth c H locs 0 0 Q (F0 m 162 ls []) := by
    intro  n
    induction n with
    | zero => intro hh y1 H locs ls h; exact nomatch h
    | succ n ih => exact s162  (fX6_digest_l162 σ  n) ih
  have s135 : ∀ (k135 : Int64 → Int32 → Option (Int64 × Int64)) (hk135 : (∀ (hh : Int64) (y1 : Int32) (H : Heap) (locs : List Loc) (ls : Array Slot), k135 hh y1 = some (r, h2) → zz (dC, dI) 18 a (wdM cI cZ a hh σ) s.heap H locs → lv_has ls 2 [(0, .ref (a 0)), (1, .int y1)] → W p l e rmX6_digest s m args below meth c H locs 0 0 Q (F0 m 135 ls []))) (hh : Int64) (y1 : Int32) (H : Heap) (locs : List Loc) (ls : Array Slot), fX6_digest_s135 σ k135 hh y1 = some (r, h2) → zz (dC, dI) 18 a (wdM cI cZ a hh σ) s.heap H locs → lv_has ls 2 [(0, .ref (a 0)), (1, .int y1)] → W p l e rmX6_digest s m args below meth c H locs 0 0 Q (F0 m 135 ls []) := by
    intro k135 hk135 hh y1 H locs ls h hz hl
    unfold fX6_digest_s135 at h
    refine lv_iload_n hx hb dX6_digest_135 rfl (lv_at hl 1 rfl) ?_
    refine lv_aload_n hx hb dX6_digest_136 rfl (lv_at hl 0 rfl) ?_
    refine va_get (v := .int (σ 40 0)) hx hb hts inX6_digest_X6 hown hKK.1 hz.1 0 rfl rfl 0 (by decide) (hts _ (List.mem_of_getElem? (i := 6) rfl)) (fun _ h9 => h9) rfl dX6_digest_137 ?_
    refine lv_icmp_ge (tgt := 160) hx hb dX6_digest_140 (by decide) (fun c5 => ?_) (fun c5 => ?_)
    · replace h := ite_t c5 h
      refine lv_iconst (v := (0 : Int32)) hx hb dX6_digest_160 (by decide) ?_
      refine lv_istore_n (lv' := [(1, .int (0 : Int32)), (0, .ref (a 0))]) hx hb dX6_digest_161 rfl hl (by decide) rfl (fun ls hl => ?_)
      exact l162  FU hh (0 : Int32) _ _ _ h hz (lv_sub hl [1, 0] rfl)
    · replace h := ite_f c5 h
      refine lv_aload_n hx hb dX6_digest_143 rfl (lv_at hl 0 rfl) ?_
      refine lv_aload_n hx hb dX6_digest_144 rfl (lv_at hl 0 rfl) ?_
      refine va_get (v := .ref (a 1)) hx hb hts inX6_digest_X6 hown hKK.1 hz.1 0 rfl rfl 1 (by decide) (hts _ (List.mem_of_getElem? (i := 7) rfl)) (fun _ h9 => h9) rfl dX6_digest_145 ?_
      refine lv_iload_n hx hb dX6_digest_148 rfl (lv_at hl 1 rfl) ?_
      obtain ⟨c13, h⟩ := ck_e h
      refine va_iald (f := (σ 1)) hx hb hKK.1 hz.1 1 0 rfl rfl c13 dX6_digest_149 ?_
      refine lv_i2l (v := (Int32.toInt64 ((σ 1) (Int32.toNatClampNeg y1)))) hx hb dX6_digest_150 rfl ?_
      obtain ⟨s15, e16, h⟩ := bd1_e h
      refine zcallVv (As := [.long (Int32.toInt64 ((σ 1) (Int32.toNatClampNeg y1)))]) (rest := []) CF hKK (KX6_mix (dC := dC) (dI := dI) (cI := cI) (cZ := cZ) (a := a) hok e16) (cwV 1 hts gX6_digest_X6_mix rfl rfl rfl cdX6_mix ⟨Nat.le_of_ble_eq_true rfl, Nat.le_of_ble_eq_true rfl⟩) 0 6 rfl rfl hz rfl hl.1 rfl (Nat.le_of_ble_eq_true rfl) dX6_digest_151 ⟨Nat.le_refl _, Nat.le_refl _⟩ (fun H locs hz => ?_)
      refine lv_iinc (v := (y1 + (1 : Int32))) (lv' := [(1, .int (y1 + (1 : Int32))), (0, .ref (a 0))]) hx hb dX6_digest_154 hl (k := 1) rfl rfl (by decide) rfl (fun ls hl => ?_)
      refine lv_goto (tgt := 135) hx hb dX6_digest_157 (by decide) ?_
      exact hk135 s15 (y1 + (1 : Int32)) _ _ _ h hz (lv_sub hl [1, 0] rfl)
  have l135 : ∀  (n : Nat), ∀ (hh : Int64) (y1 : Int32) (H : Heap) (locs : List Loc) (ls : Array Slot), fX6_digest_l135 σ  n hh y1 = some (r, h2) → zz (dC, dI) 18 a (wdM cI cZ a hh σ) s.heap H locs → lv_has ls 2 [(0, .ref (a 0)), (1, .int y1)] → W p l e rmX6_digest s m args below meth c H locs 0 0 Q (F0 m 135 ls []) := by
    intro  n
    induction n with
    | zero => intro hh y1 H locs ls h; exact nomatch h
    | succ n ih => exact s135  (fX6_digest_l135 σ  n) ih
  have s111 : ∀ (k111 : Int64 → Int32 → Option (Int64 × Int64)) (hk111 : (∀ (hh : Int64) (y1 : Int32) (H : Heap) (locs : List Loc) (ls : Array Slot), k111 hh y1 = some (r, h2) → zz (dC, dI) 18 a (wdM cI cZ a hh σ) s.heap H locs → lv_has ls 2 [(0, .ref (a 0)), (1, .int y1)] → W p l e rmX6_digest s m args below meth c H locs 0 0 Q (F0 m 111 ls []))) (hh : Int64) (y1 : Int32) (H : Heap) (locs : List Loc) (ls : Array Slot), fX6_digest_s111 σ k111 hh y1 = some (r, h2) → zz (dC, dI) 18 a (wdM cI cZ a hh σ) s.heap H locs → lv_has ls 2 [(0, .ref (a 0)), (1, .int y1)] → W p l e rmX6_digest s m args below meth c H locs 0 0 Q (F0 m 111 ls []) := by
    intro k111 hk111 hh y1 H locs ls h hz hl
    unfold fX6_digest_s111 at h
    refine lv_iload_n hx hb dX6_digest_111 rfl (lv_at hl 1 rfl) ?_
    refine lv_bipush (v := (9 : Int32)) hx hb dX6_digest_112 (by decide) ?_
    refine lv_icmp_ge (tgt := 133) hx hb dX6_digest_114 (by decide) (fun c4 => ?_) (fun c4 => ?_)
    · replace h := ite_t c4 h
      refine lv_iconst (v := (0 : Int32)) hx hb dX6_digest_133 (by decide) ?_
      refine lv_istore_n (lv' := [(1, .int (0 : Int32)), (0, .ref (a 0))]) hx hb dX6_digest_134 rfl hl (by decide) rfl (fun ls hl => ?_)
      exact l135  FU hh (0 : Int32) _ _ _ h hz (lv_sub hl [1, 0] rfl)
    · replace h := ite_f c4 h
      refine lv_aload_n hx hb dX6_digest_117 rfl (lv_at hl 0 rfl) ?_
      refine lv_aload_n hx hb dX6_digest_118 rfl (lv_at hl 0 rfl) ?_
      refine lv_iload_n hx hb dX6_digest_119 rfl (lv_at hl 1 rfl) ?_
      obtain ⟨r17, e19, h⟩ := bd1_e h
      refine zcallVi (As := [.int y1]) (rest := [.ref (a 0)]) CF hKK (KX6_placedNow (dC := dC) (dI := dI) (cI := cI) (cZ := cZ) (a := a) hok e19) (cwV 1 hts gX6_digest_X6_placedNow rfl rfl rfl cdX6_placedNow ⟨Nat.le_of_ble_eq_true rfl, Nat.le_of_ble_eq_true rfl⟩) 0 6 rfl rfl hz rfl hl.1 rfl (Nat.le_of_ble_eq_true rfl) dX6_digest_120 ⟨Nat.le_refl _, Nat.le_refl _⟩ (fun H locs hz => ?_)
      refine lv_i2l (v := (Int32.toInt64 r17)) hx hb dX6_digest_123 rfl ?_
      obtain ⟨s21, e22, h⟩ := bd1_e h
      refine zcallVv (As := [.long (Int32.toInt64 r17)]) (rest := []) CF hKK (KX6_mix (dC := dC) (dI := dI) (cI := cI) (cZ := cZ) (a := a) hok e22) (cwV 1 hts gX6_digest_X6_mix rfl rfl rfl cdX6_mix ⟨Nat.le_of_ble_eq_true rfl, Nat.le_of_ble_eq_true rfl⟩) 0 6 rfl rfl hz rfl hl.1 rfl (Nat.le_of_ble_eq_true rfl) dX6_digest_124 ⟨Nat.le_refl _, Nat.le_refl _⟩ (fun H locs hz => ?_)
      refine lv_iinc (v := (y1 + (1 : Int32))) (lv' := [(1, .int (y1 + (1 : Int32))), (0, .ref (a 0))]) hx hb dX6_digest_127 hl (k := 1) rfl rfl (by decide) rfl (fun ls hl => ?_)
      refine lv_goto (tgt := 111) hx hb dX6_digest_130 (by decide) ?_
      exact hk111 s21 (y1 + (1 : Int32)) _ _ _ h hz (lv_sub hl [1, 0] rfl)
  have l111 : ∀  (n : Nat), ∀ (hh : Int64) (y1 : Int32) (H : Heap) (locs : List Loc) (ls : Array Slot), fX6_digest_l111 σ  n hh y1 = some (r, h2) → zz (dC, dI) 18 a (wdM cI cZ a hh σ) s.heap H locs → lv_has ls 2 [(0, .ref (a 0)), (1, .int y1)] → W p l e rmX6_digest s m args below meth c H locs 0 0 Q (F0 m 111 ls []) := by
    intro  n
    induction n with
    | zero => intro hh y1 H locs ls h; exact nomatch h
    | succ n ih => exact s111  (fX6_digest_l111 σ  n) ih
  have s78 : ∀ (k78 : Int64 → Int32 → Option (Int64 × Int64)) (hk78 : (∀ (hh : Int64) (y1 : Int32) (H : Heap) (locs : List Loc) (ls : Array Slot), k78 hh y1 = some (r, h2) → zz (dC, dI) 18 a (wdM cI cZ a hh σ) s.heap H locs → lv_has ls 2 [(0, .ref (a 0)), (1, .int y1)] → W p l e rmX6_digest s m args below meth c H locs 0 0 Q (F0 m 78 ls []))) (hh : Int64) (y1 : Int32) (H : Heap) (locs : List Loc) (ls : Array Slot), fX6_digest_s78 σ k78 hh y1 = some (r, h2) → zz (dC, dI) 18 a (wdM cI cZ a hh σ) s.heap H locs → lv_has ls 2 [(0, .ref (a 0)), (1, .int y1)] → W p l e rmX6_digest s m args below meth c H locs 0 0 Q (F0 m 78 ls []) := by
    intro k78 hk78 hh y1 H locs ls h hz hl
    unfold fX6_digest_s78 at h
    refine lv_iload_n hx hb dX6_digest_78 rfl (lv_at hl 1 rfl) ?_
    refine lv_iconst (v := (4 : Int32)) hx hb dX6_digest_79 (by decide) ?_
    refine lv_aload_n hx hb dX6_digest_80 rfl (lv_at hl 0 rfl) ?_
    refine va_get (v := .int (σ 49 0)) hx hb hts inX6_digest_X6 hown hKK.1 hz.1 0 rfl rfl 18 (by decide) (hts _ (List.mem_of_getElem? (i := 5) rfl)) (fun _ h9 => h9) rfl dX6_digest_81 ?_
    refine lv_imul hx hb dX6_digest_84 ?_
    refine lv_icmp_ge (tgt := 109) hx hb dX6_digest_85 (by decide) (fun c3 => ?_) (fun c3 => ?_)
    · replace h := ite_t c3 h
      refine lv_iconst (v := (0 : Int32)) hx hb dX6_digest_109 (by decide) ?_
      refine lv_istore_n (lv' := [(1, .int (0 : Int32)), (0, .ref (a 0))]) hx hb dX6_digest_110 rfl hl (by decide) rfl (fun ls hl => ?_)
      exact l111  FU hh (0 : Int32) _ _ _ h hz (lv_sub hl [1, 0] rfl)
    · replace h := ite_f c3 h
      refine lv_aload_n hx hb dX6_digest_88 rfl (lv_at hl 0 rfl) ?_
      refine lv_aload_n hx hb dX6_digest_89 rfl (lv_at hl 0 rfl) ?_
      refine lv_iload_n hx hb dX6_digest_90 rfl (lv_at hl 1 rfl) ?_
      refine lv_iconst (v := (4 : Int32)) hx hb dX6_digest_91 (by decide) ?_
      refine lv_idiv hx hb dX6_digest_92 (by decide) ?_
      refine lv_iload_n hx hb dX6_digest_93 rfl (lv_at hl 1 rfl) ?_
      refine lv_iconst (v := (4 : Int32)) hx hb dX6_digest_94 (by decide) ?_
      refine lv_irem hx hb dX6_digest_95 (by decide) ?_
      obtain ⟨r23, e25, h⟩ := bd1_e h
      refine zcallVi (As := [.int (y1 / (4 : Int32)), .int (y1 - y1 / (4 : Int32) * (4 : Int32))]) (rest := [.ref (a 0)]) CF hKK (KX6_constantNow (dC := dC) (dI := dI) (cI := cI) (cZ := cZ) (a := a) hok e25) (cwV 2 hts gX6_digest_X6_constantNow rfl rfl rfl cdX6_constantNow ⟨Nat.le_of_ble_eq_true rfl, Nat.le_of_ble_eq_true rfl⟩) 0 6 rfl rfl hz rfl hl.1 rfl (Nat.le_of_ble_eq_true rfl) dX6_digest_96 ⟨Nat.le_refl _, Nat.le_refl _⟩ (fun H locs hz => ?_)
      refine lv_i2l (v := (Int32.toInt64 r23)) hx hb dX6_digest_99 rfl ?_
      obtain ⟨s27, e28, h⟩ := bd1_e h
      refine zcallVv (As := [.long (Int32.toInt64 r23)]) (rest := []) CF hKK (KX6_mix (dC := dC) (dI := dI) (cI := cI) (cZ := cZ) (a := a) hok e28) (cwV 1 hts gX6_digest_X6_mix rfl rfl rfl cdX6_mix ⟨Nat.le_of_ble_eq_true rfl, Nat.le_of_ble_eq_true rfl⟩) 0 6 rfl rfl hz rfl hl.1 rfl (Nat.le_of_ble_eq_true rfl) dX6_digest_100 ⟨Nat.le_refl _, Nat.le_refl _⟩ (fun H locs hz => ?_)
      refine lv_iinc (v := (y1 + (1 : Int32))) (lv' := [(1, .int (y1 + (1 : Int32))), (0, .ref (a 0))]) hx hb dX6_digest_103 hl (k := 1) rfl rfl (by decide) rfl (fun ls hl => ?_)
      refine lv_goto (tgt := 78) hx hb dX6_digest_106 (by decide) ?_
      exact hk78 s27 (y1 + (1 : Int32)) _ _ _ h hz (lv_sub hl [1, 0] rfl)
  have l78 : ∀  (n : Nat), ∀ (hh : Int64) (y1 : Int32) (H : Heap) (locs : List Loc) (ls : Array Slot), fX6_digest_l78 σ  n hh y1 = some (r, h2) → zz (dC, dI) 18 a (wdM cI cZ a hh σ) s.heap H locs → lv_has ls 2 [(0, .ref (a 0)), (1, .int y1)] → W p l e rmX6_digest s m args below meth c H locs 0 0 Q (F0 m 78 ls []) := by
    intro  n
    induction n with
    | zero => intro hh y1 H locs ls h; exact nomatch h
    | succ n ih => exact s78  (fX6_digest_l78 σ  n) ih
  have s45 : ∀ (k45 : Int64 → Int32 → Option (Int64 × Int64)) (hk45 : (∀ (hh : Int64) (y1 : Int32) (H : Heap) (locs : List Loc) (ls : Array Slot), k45 hh y1 = some (r, h2) → zz (dC, dI) 18 a (wdM cI cZ a hh σ) s.heap H locs → lv_has ls 2 [(0, .ref (a 0)), (1, .int y1)] → W p l e rmX6_digest s m args below meth c H locs 0 0 Q (F0 m 45 ls []))) (hh : Int64) (y1 : Int32) (H : Heap) (locs : List Loc) (ls : Array Slot), fX6_digest_s45 σ k45 hh y1 = some (r, h2) → zz (dC, dI) 18 a (wdM cI cZ a hh σ) s.heap H locs → lv_has ls 2 [(0, .ref (a 0)), (1, .int y1)] → W p l e rmX6_digest s m args below meth c H locs 0 0 Q (F0 m 45 ls []) := by
    intro k45 hk45 hh y1 H locs ls h hz hl
    unfold fX6_digest_s45 at h
    refine lv_iload_n hx hb dX6_digest_45 rfl (lv_at hl 1 rfl) ?_
    refine lv_iconst (v := (4 : Int32)) hx hb dX6_digest_46 (by decide) ?_
    refine lv_aload_n hx hb dX6_digest_47 rfl (lv_at hl 0 rfl) ?_
    refine va_get (v := .int (σ 48 0)) hx hb hts inX6_digest_X6 hown hKK.1 hz.1 0 rfl rfl 15 (by decide) (hts _ (List.mem_of_getElem? (i := 4) rfl)) (fun _ h9 => h9) rfl dX6_digest_48 ?_
    refine lv_imul hx hb dX6_digest_51 ?_
    refine lv_icmp_ge (tgt := 76) hx hb dX6_digest_52 (by decide) (fun c2 => ?_) (fun c2 => ?_)
    · replace h := ite_t c2 h
      refine lv_iconst (v := (0 : Int32)) hx hb dX6_digest_76 (by decide) ?_
      refine lv_istore_n (lv' := [(1, .int (0 : Int32)), (0, .ref (a 0))]) hx hb dX6_digest_77 rfl hl (by decide) rfl (fun ls hl => ?_)
      exact l78  FU hh (0 : Int32) _ _ _ h hz (lv_sub hl [1, 0] rfl)
    · replace h := ite_f c2 h
      refine lv_aload_n hx hb dX6_digest_55 rfl (lv_at hl 0 rfl) ?_
      refine lv_aload_n hx hb dX6_digest_56 rfl (lv_at hl 0 rfl) ?_
      refine lv_iload_n hx hb dX6_digest_57 rfl (lv_at hl 1 rfl) ?_
      refine lv_iconst (v := (4 : Int32)) hx hb dX6_digest_58 (by decide) ?_
      refine lv_idiv hx hb dX6_digest_59 (by decide) ?_
      refine lv_iload_n hx hb dX6_digest_60 rfl (lv_at hl 1 rfl) ?_
      refine lv_iconst (v := (4 : Int32)) hx hb dX6_digest_61 (by decide) ?_
      refine lv_irem hx hb dX6_digest_62 (by decide) ?_
      obtain ⟨r29, e31, h⟩ := bd1_e h
      refine zcallVi (As := [.int (y1 / (4 : Int32)), .int (y1 - y1 / (4 : Int32) * (4 : Int32))]) (rest := [.ref (a 0)]) CF hKK (KX6_islandNow (dC := dC) (dI := dI) (cI := cI) (cZ := cZ) (a := a) hok e31) (cwV 2 hts gX6_digest_X6_islandNow rfl rfl rfl cdX6_islandNow ⟨Nat.le_of_ble_eq_true rfl, Nat.le_of_ble_eq_true rfl⟩) 0 6 rfl rfl hz rfl hl.1 rfl (Nat.le_of_ble_eq_true rfl) dX6_digest_63 ⟨Nat.le_refl _, Nat.le_refl _⟩ (fun H locs hz => ?_)
      refine lv_i2l (v := (Int32.toInt64 r29)) hx hb dX6_digest_66 rfl ?_
      obtain ⟨s33, e34, h⟩ := bd1_e h
      refine zcallVv (As := [.long (Int32.toInt64 r29)]) (rest := []) CF hKK (KX6_mix (dC := dC) (dI := dI) (cI := cI) (cZ := cZ) (a := a) hok e34) (cwV 1 hts gX6_digest_X6_mix rfl rfl rfl cdX6_mix ⟨Nat.le_of_ble_eq_true rfl, Nat.le_of_ble_eq_true rfl⟩) 0 6 rfl rfl hz rfl hl.1 rfl (Nat.le_of_ble_eq_true rfl) dX6_digest_67 ⟨Nat.le_refl _, Nat.le_refl _⟩ (fun H locs hz => ?_)
      refine lv_iinc (v := (y1 + (1 : Int32))) (lv' := [(1, .int (y1 + (1 : Int32))), (0, .ref (a 0))]) hx hb dX6_digest_70 hl (k := 1) rfl rfl (by decide) rfl (fun ls hl => ?_)
      refine lv_goto (tgt := 45) hx hb dX6_digest_73 (by decide) ?_
      exact hk45 s33 (y1 + (1 : Int32)) _ _ _ h hz (lv_sub hl [1, 0] rfl)
  have l45 : ∀  (n : Nat), ∀ (hh : Int64) (y1 : Int32) (H : Heap) (locs : List Loc) (ls : Array Slot), fX6_digest_l45 σ  n hh y1 = some (r, h2) → zz (dC, dI) 18 a (wdM cI cZ a hh σ) s.heap H locs → lv_has ls 2 [(0, .ref (a 0)), (1, .int y1)] → W p l e rmX6_digest s m args below meth c H locs 0 0 Q (F0 m 45 ls []) := by
    intro  n
    induction n with
    | zero => intro hh y1 H locs ls h; exact nomatch h
    | succ n ih => exact s45  (fX6_digest_l45 σ  n) ih
  have s9 : ∀ (k9 : Int64 → Int32 → Option (Int64 × Int64)) (hk9 : (∀ (hh : Int64) (y1 : Int32) (H : Heap) (locs : List Loc) (ls : Array Slot), k9 hh y1 = some (r, h2) → zz (dC, dI) 18 a (wdM cI cZ a hh σ) s.heap H locs → lv_has ls 2 [(0, .ref (a 0)), (1, .int y1)] → W p l e rmX6_digest s m args below meth c H locs 0 0 Q (F0 m 9 ls []))) (hh : Int64) (y1 : Int32) (H : Heap) (locs : List Loc) (ls : Array Slot), fX6_digest_s9 σ k9 hh y1 = some (r, h2) → zz (dC, dI) 18 a (wdM cI cZ a hh σ) s.heap H locs → lv_has ls 2 [(0, .ref (a 0)), (1, .int y1)] → W p l e rmX6_digest s m args below meth c H locs 0 0 Q (F0 m 9 ls []) := by
    intro k9 hk9 hh y1 H locs ls h hz hl
    unfold fX6_digest_s9 at h
    refine lv_iload_n hx hb dX6_digest_9 rfl (lv_at hl 1 rfl) ?_
    refine lv_bipush (v := (6 : Int32)) hx hb dX6_digest_10 (by decide) ?_
    refine lv_aload_n hx hb dX6_digest_12 rfl (lv_at hl 0 rfl) ?_
    refine va_get (v := .int (σ 41 0)) hx hb hts inX6_digest_X6 hown hKK.1 hz.1 0 rfl rfl 2 (by decide) (hts _ (List.mem_of_getElem? (i := 3) rfl)) (fun _ h9 => h9) rfl dX6_digest_13 ?_
    refine lv_imul hx hb dX6_digest_16 ?_
    refine lv_icmp_ge (tgt := 43) hx hb dX6_digest_17 (by decide) (fun c1 => ?_) (fun c1 => ?_)
    · replace h := ite_t c1 h
      refine lv_iconst (v := (0 : Int32)) hx hb dX6_digest_43 (by decide) ?_
      refine lv_istore_n (lv' := [(1, .int (0 : Int32)), (0, .ref (a 0))]) hx hb dX6_digest_44 rfl hl (by decide) rfl (fun ls hl => ?_)
      exact l45  FU hh (0 : Int32) _ _ _ h hz (lv_sub hl [1, 0] rfl)
    · replace h := ite_f c1 h
      refine lv_aload_n hx hb dX6_digest_20 rfl (lv_at hl 0 rfl) ?_
      refine lv_aload_n hx hb dX6_digest_21 rfl (lv_at hl 0 rfl) ?_
      refine lv_iload_n hx hb dX6_digest_22 rfl (lv_at hl 1 rfl) ?_
      refine lv_bipush (v := (6 : Int32)) hx hb dX6_digest_23 (by decide) ?_
      refine lv_idiv hx hb dX6_digest_25 (by decide) ?_
      refine lv_iload_n hx hb dX6_digest_26 rfl (lv_at hl 1 rfl) ?_
      refine lv_bipush (v := (6 : Int32)) hx hb dX6_digest_27 (by decide) ?_
      refine lv_irem hx hb dX6_digest_29 (by decide) ?_
      obtain ⟨r35, e37, h⟩ := bd1_e h
      refine zcallVi (As := [.int (y1 / (6 : Int32)), .int (y1 - y1 / (6 : Int32) * (6 : Int32))]) (rest := [.ref (a 0)]) CF hKK (KX6_itemNow (dC := dC) (dI := dI) (cI := cI) (cZ := cZ) (a := a) hok e37) (cwV 2 hts gX6_digest_X6_itemNow rfl rfl rfl cdX6_itemNow ⟨Nat.le_of_ble_eq_true rfl, Nat.le_of_ble_eq_true rfl⟩) 0 6 rfl rfl hz rfl hl.1 rfl (Nat.le_of_ble_eq_true rfl) dX6_digest_30 ⟨Nat.le_refl _, Nat.le_refl _⟩ (fun H locs hz => ?_)
      refine lv_i2l (v := (Int32.toInt64 r35)) hx hb dX6_digest_33 rfl ?_
      obtain ⟨s39, e40, h⟩ := bd1_e h
      refine zcallVv (As := [.long (Int32.toInt64 r35)]) (rest := []) CF hKK (KX6_mix (dC := dC) (dI := dI) (cI := cI) (cZ := cZ) (a := a) hok e40) (cwV 1 hts gX6_digest_X6_mix rfl rfl rfl cdX6_mix ⟨Nat.le_of_ble_eq_true rfl, Nat.le_of_ble_eq_true rfl⟩) 0 6 rfl rfl hz rfl hl.1 rfl (Nat.le_of_ble_eq_true rfl) dX6_digest_34 ⟨Nat.le_refl _, Nat.le_refl _⟩ (fun H locs hz => ?_)
      refine lv_iinc (v := (y1 + (1 : Int32))) (lv' := [(1, .int (y1 + (1 : Int32))), (0, .ref (a 0))]) hx hb dX6_digest_37 hl (k := 1) rfl rfl (by decide) rfl (fun ls hl => ?_)
      refine lv_goto (tgt := 9) hx hb dX6_digest_40 (by decide) ?_
      exact hk9 s39 (y1 + (1 : Int32)) _ _ _ h hz (lv_sub hl [1, 0] rfl)
  have l9 : ∀  (n : Nat), ∀ (hh : Int64) (y1 : Int32) (H : Heap) (locs : List Loc) (ls : Array Slot), fX6_digest_l9 σ  n hh y1 = some (r, h2) → zz (dC, dI) 18 a (wdM cI cZ a hh σ) s.heap H locs → lv_has ls 2 [(0, .ref (a 0)), (1, .int y1)] → W p l e rmX6_digest s m args below meth c H locs 0 0 Q (F0 m 9 ls []) := by
    intro  n
    induction n with
    | zero => intro hh y1 H locs ls h; exact nomatch h
    | succ n ih => exact s9  (fX6_digest_l9 σ  n) ih
  unfold fX6_digest at h
  refine lv_aload_n hx hb dX6_digest_0 rfl (lv_at hl 0 rfl) ?_
  refine lv_ldc2 (v := (1637 : Int64)) hx hb hown (hts _ (List.mem_of_getElem? (i := 1) rfl)) dX6_digest_1 ?_
  refine zput (ty := .long) (w' := wdM cI cZ a (1637 : Int64) σ) hx hb hts inX6_digest_X6 tyX6 tyX6_ok nmX6 hown hKK hok wkM hz 0 rfl rfl 33 (by decide) (hts _ (List.mem_of_getElem? (i := 2) rfl)) (fun _ h9 => h9) rfl rfl rfl rfl (Nat.le_of_ble_eq_true rfl) setMh dX6_digest_4 (fun H locs hz => ?_)
  refine lv_iconst (v := (0 : Int32)) hx hb dX6_digest_7 (by decide) ?_
  refine lv_istore_n (lv' := [(1, .int (0 : Int32)), (0, .ref (a 0))]) hx hb dX6_digest_8 rfl hl (by decide) rfl (fun ls hl => ?_)
  exact l9  FU (1637 : Int64) (0 : Int32) _ _ _ h hz (lv_sub hl [1, 0] rfl)
