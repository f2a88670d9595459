def wi_X3 (cI cZ : ClassId) (h0 : Nat) (q : List Nat) : va_W := [(h0, .inr (3, [.ref (q.getD 0 0), .int 0, .int 0, .int 0])), ((q.getD 0 0), .inr (0, [.ref (q.getD 1 0), .ref (q.getD 2 0), .int 0, .int 0])), ((q.getD 1 0), .inl (cI, 24, .inl (fun _ => 0))), ((q.getD 2 0), .inl (cI, 24, .inl (fun _ => 0)))]
abbrev rmi_X3 : Room := { frames := 2, cells := 3, slots := 52, locals := 32 }
set_option maxHeartbeats 4000000 in
set_option maxRecDepth 100000 in
theorem i_X3 {l : Launch} {dC : Nat → ClassId} {dI : Nat → Nat → Nat} {cI cZ : ClassId} {h0 : Nat} (sz : Nat) : Met l yX3_init wsX3_init rmi_X3 (Pk (dC, dI) cI cZ h0 (.inr (3, [.null, .int 0, .int 0, .int 0])) sz [.ref h0]) (Qk (dC, dI) h0 (.inr (3, [.null, .int 0, .int 0, .int 0])) (wi_X3 cI cZ h0 ) sz) 3 52 (va_A [(h0, .inr (3, [.null, .int 0, .int 0, .int 0]))] sz) := by
  refine Met.ofW (cc := cX3_init) (maxL := 1) (ret := none) (by decide) rfl ?_
  intro p e s m args below meth c s₁ B hml hv
  obtain ⟨hav, hsz, hP, hKK⟩ := hv
  have hx := B.exec
  have hb := B.bytes
  have hr := B.returns
  have hts := atoms_spec (ws := wsX3_init) B.pre
  have hown : s.vm.findClass RX3 = some m.cls := findClass_of_methodNamed B.named
  have hlocks := B.notSynchronized
  have hin : meth.name = "<init>" := (name_of_methodNamed B.named B.method).1
  have CF : CallFix p m c cX3_init 1 s args wsX3_init RX3 := ⟨hx, hb, hml, hown, hts⟩
  subst hsz
  have hD : va_D (va_A [(h0, .inr (3, [.null, .int 0, .int 0, .int 0]))] s.heap.size) [(h0, .inr (3, [.null, .int 0, .int 0, .int 0]))] := (va_D_one (h0 := h0) (e := .inr (3, [.null, .int 0, .int 0, .int 0]))).self
  generalize hAe : va_A [(h0, .inr (3, [.null, .int 0, .int 0, .int 0]))] s.heap.size = A at hD ⊢
  have hA : ∀ q : Nat, s.heap.size ≤ q → A q := fun q h => by rw [← hAe]; exact Or.inr h
  have hS : va_S A s.heap s.heap [] := va_S.rf
  have hl := lv_entry [.ref h0] (n := 1) (Nat.le_of_ble_eq_true rfl)
  have hen : entryFrame m args 1 = entryFrame m ([.ref h0] : List Value).toArray 1 := by rw [hav]
  rw [hen, lg_entry_eq]
  generalize (lg_sl [.ref h0] ++ List.replicate (1 - (lg_sl [.ref h0]).length) Slot.unset).toArray = ls at hl ⊢
  have hl : lv_has ls 1 [(0, .ref h0)] := hl
  have eR : (headSpec wsX3_init rmi_X3).room = rmi_X3 := rfl
  rw [eR]
  refine lv_aload_n hx hb dX3_init_0 rfl (lv_at hl 0 rfl) ?_
  refine W.objInit hx hb hown (hts _ (List.mem_of_getElem? (i := 1) rfl)) (hts _ (List.mem_of_getElem? (i := 2) rfl)) (hts _ (List.mem_of_getElem? (i := 3) rfl)) rfl (by rw [hml]; exact hl.1) rfl dX3_init_1 (Nat.le_of_ble_eq_true rfl) (Nat.le_of_ble_eq_true rfl) ?_
  refine W.eq (g2 := F0 m 4 ls []) rfl ?_
  refine lv_aload_n hx hb dX3_init_4 rfl (lv_at hl 0 rfl) ?_
  refine va_new (ci := 0) (fs := [.null, .null, .int 0, .int 0]) (C := RX0) (T := TX0) (N := 4) hx hb hts inX3_init_X0 tyX0 tyX0_ok hown (hts _ (List.mem_of_getElem? (i := 4) rfl)) (hts _ (List.mem_of_getElem? (i := 5) rfl)) (hts _ (List.mem_of_getElem? (i := 6) rfl)) hKK.1 hP hD hS hA rfl (fun j hj => by rcases (show j = 0 ∨ j = 1 ∨ j = 2 ∨ j = 3 by omega) with rfl | rfl | rfl | rfl <;> rfl) (Nat.le_of_ble_eq_true rfl) (Nat.le_of_ble_eq_true rfl) dX3_init_5 (fun q5 H hP hD hS => ?_)
  have hP : va_P (dC, dI) vwCl [(h0, .inr (3, [.null, .int 0, .int 0, .int 0])), (q5, .inr (0, [.null, .null, .int 0, .int 0]))] H := hP
  have hD : va_D A [(h0, .inr (3, [.null, .int 0, .int 0, .int 0])), (q5, .inr (0, [.null, .null, .int 0, .int 0]))] := hD
  refine W.widen (k := 1) (n := 4) (Nat.le_of_ble_eq_true rfl) (Nat.le_of_ble_eq_true rfl) ?_
  refine lv_dup hx hb dX3_init_8 rfl ?_
  have hPc := hP.sub (ws' := [(q5, .inr (0, [.null, .null, .int 0, .int 0]))]) [1] rfl
  have hFc := va_free (wc := [(q5, .inr (0, [.null, .null, .int 0, .int 0]))]) hD hS hA [1] rfl
  refine va_callv (va_runIN (As := []) (rest := [.ref q5, .ref h0]) CF (i_X0 (l := l) (dC := dC) (dI := dI) (cI := cI) (cZ := cZ) (h0 := q5)  H.size) ⟨va_cnB 0 hts gX3_init_X0_init_n11 rfl rfl rfl hKK.2.2.2.1 (hts _ (List.mem_of_getElem? (i := 6) rfl)) cdiX0_init ⟨Nat.le_of_ble_eq_true rfl, Nat.le_of_ble_eq_true rfl⟩, rfl, hts _ (List.mem_of_getElem? (i := 8) rfl)⟩ ⟨Pk_blind, fun U hU hW => ⟨rfl, by rw [hU], by rw [hU]; exact hPc, hKK.warm hW⟩⟩ rfl rfl hl.1 rfl (lv_room (Nat.le_of_ble_eq_true rfl)) dX3_init_9 ⟨Nat.le_of_ble_eq_true rfl, Nat.le_of_ble_eq_true rfl⟩) hS (fun q _ h => hFc q h) hFc (fun u t H1 locs ht hvm hw hB hz1 hk1 hS => ?_)
  obtain ⟨hP1, hD1⟩ := hB
  rw [ht] at hP1
  obtain ⟨hP, hD⟩ := va_join (wr := [(h0, .inr (3, [.null, .int 0, .int 0, .int 0]))]) (w1 := wi_X0 cI cZ q5 u) hP hD [1] [0] rfl rfl (by decide) (by decide) hk1 hFc hP1 hD1
  obtain ⟨q9_0, eq9_0⟩ : ∃ z, z = u.getD 0 0 := ⟨_, rfl⟩
  obtain ⟨q9_1, eq9_1⟩ : ∃ z, z = u.getD 1 0 := ⟨_, rfl⟩
  unfold wi_X0 at hP hD
  simp only [← eq9_0, ← eq9_1] at hP hD
  generalize H1 = H at hP hS ⊢
  have hP : va_P (dC, dI) vwCl [(h0, .inr (3, [.null, .int 0, .int 0, .int 0])), (q5, .inr (0, [.ref q9_0, .ref q9_1, .int 0, .int 0])), (q9_0, .inl (cI, 24, .inl (fun _ => 0))), (q9_1, .inl (cI, 24, .inl (fun _ => 0)))] H := hP
  have hD : va_D A [(h0, .inr (3, [.null, .int 0, .int 0, .int 0])), (q5, .inr (0, [.ref q9_0, .ref q9_1, .int 0, .int 0])), (q9_0, .inl (cI, 24, .inl (fun _ => 0))), (q9_1, .inl (cI, 24, .inl (fun _ => 0)))] := hD
  refine W.widen (k := 3) (n := 52) (Nat.le_of_ble_eq_true rfl) (Nat.le_of_ble_eq_true rfl) ?_
  refine va_putF (D := (dC, dI)) (ci := 3) (v := .ref q5) (ty := (.object "FarReach$Items")) (C := RX3) (T := TX3) (N := 4) hx hb hts inX3_init_X3 tyX3 tyX3_ok nmX3 hown hKK.1 hP hD hS 0 rfl rfl 0 (by decide) (hts _ (List.mem_of_getElem? (i := 7) rfl)) (fun _ h9 => h9) rfl hin rfl (by decide +kernel) rfl rfl (Nat.le_of_ble_eq_true rfl) dX3_init_12 (fun H locs hP hD hS => ?_)
  have hP : va_P (dC, dI) vwCl [(h0, .inr (3, [.ref q5, .int 0, .int 0, .int 0])), (q5, .inr (0, [.ref q9_0, .ref q9_1, .int 0, .int 0])), (q9_0, .inl (cI, 24, .inl (fun _ => 0))), (q9_1, .inl (cI, 24, .inl (fun _ => 0)))] H := hP
  have hD : va_D A [(h0, .inr (3, [.ref q5, .int 0, .int 0, .int 0])), (q5, .inr (0, [.ref q9_0, .ref q9_1, .int 0, .int 0])), (q9_0, .inl (cI, 24, .inl (fun _ => 0))), (q9_1, .inl (cI, 24, .inl (fun _ => 0)))] := hD
  have hD9 := hD
  rw [← hAe] at hD9
  have hS9 := hS
  rw [← hAe] at hS9
  exact W.vret hx hb hr (fun t ht hW => ⟨⟨[q5, q9_0, q9_1], rfl, trivial, by rw [← ht] at hP; exact hP, hD9⟩, hS9.F ht⟩) hS.2.2 dX3_init_15 hlocks
