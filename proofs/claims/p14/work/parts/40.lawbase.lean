/-! THE CLAIM OUT OF ONE WALK OF THE LAW'S BODY. Your part is whole_start (and what it stands on); all else here is the same for every law, but numbers. -/
def R_law : String := "FarReachLaw"
def lw_P (b : Addr) (xs : List Int32) (args : Array Value) (s : State) : Prop := args = #[.ref b] ∧ s.IntsAt b xs ∧ xs.length ≤ 1536 ∧ (Jvm.Cond.and given_1 narrow_1).before args s = true
def lw_Q (_ : Array Value) (s : State) (o : Outcome) (t : State) : Prop := o = .returned (some (.int 1)) ∧ Framed s o t [] 600000 7302250
def lw_Z (below : List Frame) (a : Array Value) (s : State) : State → Prop := fun t => ∃ o, t.status = .running ∧ Ended t below o ∧ lw_Q a s o t
/-- the law's own end, with 1 on the stack, nothing written that was there before, its room as the claim has it -/
theorem lw_ret {p : Program} {l : Launch} {e : Env} {s : State} {m : MethodId} {below : List Frame} {meth : Method} {c : Code} {b : Nat} (hx : p.tables.exec = Jvm.exec) (hb : c.code = code) (hr : meth.sig.returnType = ret) (hlocks : meth.locks = false) {pc : Nat} {H : Heap} {ls : Array Slot} (hdg : decode code pc = .ok (.ireturn, 1)) : W p l e room_1 s m #[Value.ref b] below meth c H [] 600000 7302250 (lw_Z below #[Value.ref b] s) (F0 m pc ls [.int 1]) := by
  intro T hT X
  obtain ⟨fs, hret, hrun, hended, hW, hframe⟩ := X.leave (v := some (.int 1)) (hlocks := hlocks) (fun h => by rw [hr] at h; cases h)
  have hmeth' : T.vm.method? m = some meth := X.method'
  refine ⟨T.setFrames fs, ?_, .returned (some (.int 1)), hrun, hended, rfl, ⟨_, rfl⟩, hW, hframe⟩
  jvm_step X.here [X.here.top, hx, hb, hdg, hmeth', hr, ret, narrow_b1]
  (try refine ⟨rfl, ?_⟩); (try refine ⟨rfl, ?_⟩)
  first | (intro acts; rw [hret _ acts rfl rfl rfl]) | rw [hret _ _ rfl rfl rfl]
  exact Steps.refl _
/-- what holds at the law's entry: the machine, the code, the tables' words (any of lw_tbl by 'hts w (by decide +kernel)'), the script of L ints xs at the cell b, what the Statement gives of the start (any of its parts by flat_of_before) -/
def lw_At (p : Program) (s : State) (m : MethodId) (meth : Method) (c : Code) (b L : Nat) (xs : Nat → Int32) : Prop :=
  p.tables.exec = Jvm.exec ∧ c.code = code ∧ meth.sig.returnType = ret ∧ c.maxLocals = 4 ∧ s.vm.findClass R_law = some m.cls ∧ (∀ w ∈ lw_tbl, w.before #[Value.ref b] s = true) ∧ va_X b L xs s s.heap ∧ b < s.heap.size ∧ meth.locks = false ∧ (Jvm.Cond.and given_1 narrow_1).before #[Value.ref b] s = true

theorem arr_of {args : Array Value} {s : State} {ty : FieldType} (h : (Cond.arrayClass ty).before args s = true) : ∃ cA : ClassId, ArrOfT s cA ty ∧ s.vm.findClass ("[" ++ ty.toString) = some cA := by
  obtain ⟨cA, kA, comp, hfind, hk, hkind⟩ := Cond.arrayClass_spec h
  exact ⟨cA, fun n z => ⟨fun k h => (by cases h), kA, hk, comp, hkind⟩, hfind⟩
def zL (D : va_G) (w v : va_W) (H0 H : Heap) (locs : List Loc) : Prop := va_P D vwCl w H ∧ va_P D vwCl v H ∧ va_S (fun q => H0.size ≤ q) H0 H locs
def dj (n k : Nat) (a b : Nat → Nat) (z : Nat) : Prop := okA n a ∧ okA k b ∧ (∀ i j : Nat, i < n → j < k → a i ≠ b j) ∧ (∀ i : Nat, i < n → z ≤ a i) ∧ (∀ j : Nat, j < k → z ≤ b j)
theorem dj_of {n k : Nat} {a b : Nat → Nat} {z : Nat} {w v : va_W} (hw : wk n a w) (hv : wk k b v) (hn : w.length = n) (hk : v.length = k) (hD : va_D (fun q => z ≤ q) (w ++ v)) : dj n k a b z := by
  have gw : ∀ i : Nat, i < n → ∃ p : Nat × va_E, (w ++ v)[i]? = some p ∧ p.1 = a i := by
    intro i hi
    have h1 : i < w.length := by omega
    refine ⟨w[i], ?_, (hw i _ (List.getElem?_eq_getElem h1)).2⟩
    rw [List.getElem?_append_left h1]; exact List.getElem?_eq_getElem h1
  have gv : ∀ i : Nat, i < k → ∃ p : Nat × va_E, (w ++ v)[n + i]? = some p ∧ p.1 = b i := by
    intro i hi
    have h1 : i < v.length := by omega
    refine ⟨v[i], ?_, (hv i _ (List.getElem?_eq_getElem h1)).2⟩
    rw [List.getElem?_append_right (by omega), show n + i - w.length = i by omega]; exact List.getElem?_eq_getElem h1
  refine ⟨fun i j hi hj he => ?_, fun i j hi hj he => ?_, fun i j hi hj he => ?_, fun i hi => ?_, fun i hi => ?_⟩
  · obtain ⟨p, h1, h2⟩ := gw i hi
    obtain ⟨q, h3, h4⟩ := gw j hj
    exact hD.1 i j p q h1 h3 (by rw [h2, h4]; exact he)
  · obtain ⟨p, h1, h2⟩ := gv i hi
    obtain ⟨q, h3, h4⟩ := gv j hj
    have := hD.1 (n + i) (n + j) p q h1 h3 (by rw [h2, h4]; exact he)
    omega
  · obtain ⟨p, h1, h2⟩ := gw i hi
    obtain ⟨q, h3, h4⟩ := gv j hj
    have := hD.1 i (n + j) p q h1 h3 (by rw [h2, h4]; exact he)
    omega
  · obtain ⟨p, h1, h2⟩ := gw i hi
    rw [← h2]; exact hD.2 i p h1
  · obtain ⟨p, h1, h2⟩ := gv i hi
    rw [← h2]; exact hD.2 (n + i) p h1
theorem oth {D : va_G} {n k : Nat} {a b : Nat → Nat} {v : va_W} {H H1 : Heap} (hd : ∀ i j : Nat, i < n → j < k → a i ≠ b j) (hv : wk k b v) (hP : va_P D vwCl v H) (hk : ∀ q : Nat, q < H.size → ¬ aN n a H.size q → H1[q]? = H[q]?) : va_P D vwCl v H1 := by
  refine hP.kept (fun j q hq => hk q.1 ((hP j q hq).lt) ?_)
  obtain ⟨h1, h2⟩ := hv j q hq
  rintro (⟨i, hi, e⟩ | h)
  · exact hd i j hi h1 (by rw [← h2, e])
  · exact absurd ((hP j q hq).lt) (Nat.not_lt.mpr h)
section ZL
variable {p : Program} {l : Launch} {e : Env} {R : Room} {s : State} {m : MethodId} {args : Array Value} {below : List Frame} {meth : Method} {c : Code} {H : Heap} {locs : List Loc} {cells slots : Nat} {Q : State → Prop}
variable {y : MethodName} {bytes cc : ByteArray} {maxL nL nA index : Nat} {ret : Option FieldType} {ws : List Cond} {rm : Room} {Ts : List Cond} {own C : String} {b0 : Addr} {As rest st0 : List Value} {D : va_G} {cI cZ : ClassId} {n k : Nat} {a b : Nat → Nat} {w w' v : va_W} {pc : Nat} {ls : Array Slot} {T : u_T} {N : Nat} {fs : List Value}
theorem aN_law {H0 : Heap} {q : Nat} (ha : ∀ i : Nat, i < n → H0.size ≤ a i) (h : H0.size ≤ H.size) (hq : aN n a H.size q) : H0.size ≤ q := by
  rcases hq with ⟨i, hi, rfl⟩ | h2
  · exact ha i hi
  · exact Nat.le_trans h h2

theorem lcallCi {r : Int32} (S : CallFix p m c cc nL s args Ts own) (hK : KK D cI cZ s) (hd : dj n k a b s.heap.size) (hv : wk k b v) (hM : ∀ sz, Met l y ws rm (Pz D cI cZ w sz (.ref b0 :: As)) (Qzi D n a w' sz r) 0 0 (aN n a sz))
    (cw : CallW R s args own C index y bytes maxL ret ws rm 0 0 nA) (q0 ci : Nat) (he : w[q0]? = some (b0, .inr (ci, fs))) (hc : vwCl[ci]? = some (C, T, N)) (hz : zL D w v s.heap H locs)
    (hn : As.length = nA) (hsize : ls.size = nL) (hst : st0 = As.reverse ++ .ref b0 :: rest) (hW : (rest.map fun v => v.category).sum ≤ 8) (hdg : decode cc pc = .ok (.invokevirtual index, 3)) (hf : cells ≤ R.cells ∧ slots ≤ R.slots)
    (kk : ∀ (H1 : Heap) (locs1 : List Loc), zL D w' v s.heap H1 locs1 → W p l e R s m args below meth c H1 locs1 cells slots Q (F0 m (pc + 3) ls (.int r :: rest))) :
    W p l e R s m args below meth c H locs cells slots Q (F0 m pc ls st0) := by
  subst hst
  have hP : va_P D vwCl w H := hz.1
  have hV : va_P D vwCl v H := hz.2.1
  have hS := hz.2.2
  have ha : ∀ i : Nat, i < n → s.heap.size ≤ a i := hd.2.2.2.1
  have hdis : ∀ i j : Nat, i < n → j < k → a i ≠ b j := hd.2.2.1
  refine va_calli (va_runV (As := As) (rest := rest) S (hM H.size) cw ⟨Pz_blind, va_recv hK.1 hP hc he, fun U hU hW => ⟨rfl, by rw [hU], by rw [hU]; exact hP, hK.warm hW⟩⟩ rfl hn hsize rfl (lv_room hW) hdg hf) hS (fun q _ h => aN_law ha hS.1 h) (fun q h => aN_law ha hS.1 h) (fun r' u t H1 locs1 ht hvm hp hB hsz hk hS1 => ?_)
  subst hp
  exact kk H1 locs1 ⟨by rw [← ht]; exact hB, oth hdis hv hV hk, hS1⟩

theorem lcallCl {r : Int64} (S : CallFix p m c cc nL s args Ts own) (hK : KK D cI cZ s) (hd : dj n k a b s.heap.size) (hv : wk k b v) (hM : ∀ sz, Met l y ws rm (Pz D cI cZ w sz (.ref b0 :: As)) (Qzl D n a w' sz r) 0 0 (aN n a sz))
    (cw : CallW R s args own C index y bytes maxL ret ws rm 0 0 nA) (q0 ci : Nat) (he : w[q0]? = some (b0, .inr (ci, fs))) (hc : vwCl[ci]? = some (C, T, N)) (hz : zL D w v s.heap H locs)
    (hn : As.length = nA) (hsize : ls.size = nL) (hst : st0 = As.reverse ++ .ref b0 :: rest) (hW : (rest.map fun v => v.category).sum ≤ 8) (hdg : decode cc pc = .ok (.invokevirtual index, 3)) (hf : cells ≤ R.cells ∧ slots ≤ R.slots)
    (kk : ∀ (H1 : Heap) (locs1 : List Loc), zL D w' v s.heap H1 locs1 → W p l e R s m args below meth c H1 locs1 cells slots Q (F0 m (pc + 3) ls (.long r :: rest))) :
    W p l e R s m args below meth c H locs cells slots Q (F0 m pc ls st0) := by
  subst hst
  have hP : va_P D vwCl w H := hz.1
  have hV : va_P D vwCl v H := hz.2.1
  have hS := hz.2.2
  have ha : ∀ i : Nat, i < n → s.heap.size ≤ a i := hd.2.2.2.1
  have hdis : ∀ i j : Nat, i < n → j < k → a i ≠ b j := hd.2.2.1
  refine va_calll (va_runV (As := As) (rest := rest) S (hM H.size) cw ⟨Pz_blind, va_recv hK.1 hP hc he, fun U hU hW => ⟨rfl, by rw [hU], by rw [hU]; exact hP, hK.warm hW⟩⟩ rfl hn hsize rfl (lv_room hW) hdg hf) hS (fun q _ h => aN_law ha hS.1 h) (fun q h => aN_law ha hS.1 h) (fun r' u t H1 locs1 ht hvm hp hB hsz hk hS1 => ?_)
  subst hp
  exact kk H1 locs1 ⟨by rw [← ht]; exact hB, oth hdis hv hV hk, hS1⟩

theorem lcallMi {r : Int32} (S : CallFix p m c cc nL s args Ts own) (hK : KK D cI cZ s) (hd : dj k n b a s.heap.size) (hv : wk k b v) (hM : ∀ sz, Met l y ws rm (Pz D cI cZ w sz (.ref b0 :: As)) (Qzi D n a w' sz r) 0 0 (aN n a sz))
    (cw : CallW R s args own C index y bytes maxL ret ws rm 0 0 nA) (q0 ci : Nat) (he : w[q0]? = some (b0, .inr (ci, fs))) (hc : vwCl[ci]? = some (C, T, N)) (hz : zL D v w s.heap H locs)
    (hn : As.length = nA) (hsize : ls.size = nL) (hst : st0 = As.reverse ++ .ref b0 :: rest) (hW : (rest.map fun v => v.category).sum ≤ 8) (hdg : decode cc pc = .ok (.invokevirtual index, 3)) (hf : cells ≤ R.cells ∧ slots ≤ R.slots)
    (kk : ∀ (H1 : Heap) (locs1 : List Loc), zL D v w' s.heap H1 locs1 → W p l e R s m args below meth c H1 locs1 cells slots Q (F0 m (pc + 3) ls (.int r :: rest))) :
    W p l e R s m args below meth c H locs cells slots Q (F0 m pc ls st0) := by
  subst hst
  have hP : va_P D vwCl w H := hz.2.1
  have hV : va_P D vwCl v H := hz.1
  have hS := hz.2.2
  have ha : ∀ i : Nat, i < n → s.heap.size ≤ a i := hd.2.2.2.2
  have hdis : ∀ i j : Nat, i < n → j < k → a i ≠ b j := fun i j hi hj h => hd.2.2.1 j i hj hi h.symm
  refine va_calli (va_runV (As := As) (rest := rest) S (hM H.size) cw ⟨Pz_blind, va_recv hK.1 hP hc he, fun U hU hW => ⟨rfl, by rw [hU], by rw [hU]; exact hP, hK.warm hW⟩⟩ rfl hn hsize rfl (lv_room hW) hdg hf) hS (fun q _ h => aN_law ha hS.1 h) (fun q h => aN_law ha hS.1 h) (fun r' u t H1 locs1 ht hvm hp hB hsz hk hS1 => ?_)
  subst hp
  exact kk H1 locs1 ⟨oth hdis hv hV hk, by rw [← ht]; exact hB, hS1⟩

theorem lcallMl {r : Int64} (S : CallFix p m c cc nL s args Ts own) (hK : KK D cI cZ s) (hd : dj k n b a s.heap.size) (hv : wk k b v) (hM : ∀ sz, Met l y ws rm (Pz D cI cZ w sz (.ref b0 :: As)) (Qzl D n a w' sz r) 0 0 (aN n a sz))
    (cw : CallW R s args own C index y bytes maxL ret ws rm 0 0 nA) (q0 ci : Nat) (he : w[q0]? = some (b0, .inr (ci, fs))) (hc : vwCl[ci]? = some (C, T, N)) (hz : zL D v w s.heap H locs)
    (hn : As.length = nA) (hsize : ls.size = nL) (hst : st0 = As.reverse ++ .ref b0 :: rest) (hW : (rest.map fun v => v.category).sum ≤ 8) (hdg : decode cc pc = .ok (.invokevirtual index, 3)) (hf : cells ≤ R.cells ∧ slots ≤ R.slots)
    (kk : ∀ (H1 : Heap) (locs1 : List Loc), zL D v w' s.heap H1 locs1 → W p l e R s m args below meth c H1 locs1 cells slots Q (F0 m (pc + 3) ls (.long r :: rest))) :
    W p l e R s m args below meth c H locs cells slots Q (F0 m pc ls st0) := by
  subst hst
  have hP : va_P D vwCl w H := hz.2.1
  have hV : va_P D vwCl v H := hz.1
  have hS := hz.2.2
  have ha : ∀ i : Nat, i < n → s.heap.size ≤ a i := hd.2.2.2.2
  have hdis : ∀ i j : Nat, i < n → j < k → a i ≠ b j := fun i j hi hj h => hd.2.2.1 j i hj hi h.symm
  refine va_calll (va_runV (As := As) (rest := rest) S (hM H.size) cw ⟨Pz_blind, va_recv hK.1 hP hc he, fun U hU hW => ⟨rfl, by rw [hU], by rw [hU]; exact hP, hK.warm hW⟩⟩ rfl hn hsize rfl (lv_room hW) hdg hf) hS (fun q _ h => aN_law ha hS.1 h) (fun q h => aN_law ha hS.1 h) (fun r' u t H1 locs1 ht hvm hp hB hsz hk hS1 => ?_)
  subst hp
  exact kk H1 locs1 ⟨oth hdis hv hV hk, by rw [← ht]; exact hB, hS1⟩

end ZL
theorem RTb_at {q1 q2 : Nat} {a : Nat → Nat} {s U : State} {H : Heap} {locs : List Loc} (ha : ∀ i : Nat, i < 30 → s.heap.size ≤ a i) (h : va_Z "FarReach" "LEAST_REACH" "[I" (.ref q1) (fun q => s.heap.size ≤ q) s s.heap ∧ va_T .int q1 3 (fun j => .int (lr j)) (fun q => s.heap.size ≤ q) s s.heap ∧ va_Z "FarReach" "MOST_REACH" "[I" (.ref q2) (fun q => s.heap.size ≤ q) s s.heap ∧ va_T .int q2 3 (fun j => .int (mr j)) (fun q => s.heap.size ≤ q) s s.heap)
    (hS : va_S (fun q => s.heap.size ≤ q) s.heap H locs) (hU : U.heap = H) (hvm : s.vm.Alike U.vm) : RTb q1 q2 a U := by
  have nar : ∀ q, aN 30 a U.heap.size q → s.heap.size ≤ q := fun q hq => aN_law (H := U.heap) (H0 := s.heap) ha (by rw [hU]; exact hS.1) hq
  obtain ⟨h1, h2, h3, h4⟩ := h
  have kp : ∀ a : Nat, a < s.heap.size → ¬ s.heap.size ≤ a → U.heap[a]? = s.heap[a]? := fun a ha hn => by rw [hU]; exact hS.2.1 a ha hn
  exact ⟨((h1.kept kp).moved hvm).narrow nar, ((h2.kept kp).moved hvm).narrow nar, ((h3.kept kp).moved hvm).narrow nar, ((h4.kept kp).moved hvm).narrow nar⟩
theorem PzR_blind {q1 q2 : Nat} {a : Nat → Nat} {D : va_G} {cI cZ : ClassId} {w : va_W} {sz : Nat} {av : List Value} : FrameBlind (PzR q1 q2 a D cI cZ w sz av) := by
  intro x U g mk q
  obtain ⟨q0, q1, qP, ⟨qK, qN⟩, h1, h2, h3, h4⟩ := q
  exact ⟨q0, q1, qP, ⟨va_K.moved (u := U) (U := U.calling g mk x) (Vm.Alike.refl U.vm) qK, qN.same rfl⟩, va_Z.moved (u := U) (U := U.calling g mk x) (Vm.Alike.refl U.vm) h1, va_T.moved (u := U) (U := U.calling g mk x) (Vm.Alike.refl U.vm) h2, va_Z.moved (u := U) (U := U.calling g mk x) (Vm.Alike.refl U.vm) h3, va_T.moved (u := U) (U := U.calling g mk x) (Vm.Alike.refl U.vm) h4⟩

section ZR
variable {p : Program} {l : Launch} {e : Env} {R : Room} {s : State} {m : MethodId} {args : Array Value} {below : List Frame} {meth : Method} {c : Code} {H : Heap} {locs : List Loc} {cells slots : Nat} {Q : State → Prop}
variable {y : MethodName} {bytes cc : ByteArray} {maxL nL nA index : Nat} {ret : Option FieldType} {ws : List Cond} {rm : Room} {Ts : List Cond} {own C : String} {b0 : Addr} {As rest st0 : List Value} {D : va_G} {cI cZ : ClassId} {n k : Nat} {a b : Nat → Nat} {w w' v : va_W} {pc : Nat} {ls : Array Slot} {T : u_T} {N : Nat} {fs : List Value}
theorem lcallCRi {r : Int32} {q1 q2 : Nat} (S : CallFix p m c cc nL s args Ts own) (hK : KK D cI cZ s) (hd : dj n k a b s.heap.size) (hv : wk k b v) (hM : ∀ sz, Met l y ws rm (PzR q1 q2 a D cI cZ w sz (.ref b0 :: As)) (Qzi D n a w' sz r) 0 0 (aN n a sz)) (hT : ∀ U : State, U.heap = H → s.vm.Alike U.vm → RTb q1 q2 a U)
    (cw : CallW R s args own C index y bytes maxL ret ws rm 0 0 nA) (q0 ci : Nat) (he : w[q0]? = some (b0, .inr (ci, fs))) (hc : vwCl[ci]? = some (C, T, N)) (hz : zL D w v s.heap H locs)
    (hn : As.length = nA) (hsize : ls.size = nL) (hst : st0 = As.reverse ++ .ref b0 :: rest) (hW : (rest.map fun v => v.category).sum ≤ 8) (hdg : decode cc pc = .ok (.invokevirtual index, 3)) (hf : cells ≤ R.cells ∧ slots ≤ R.slots)
    (kk : ∀ (H1 : Heap) (locs1 : List Loc), zL D w' v s.heap H1 locs1 → W p l e R s m args below meth c H1 locs1 cells slots Q (F0 m (pc + 3) ls (.int r :: rest))) :
    W p l e R s m args below meth c H locs cells slots Q (F0 m pc ls st0) := by
  subst hst
  have hP : va_P D vwCl w H := hz.1
  have hV : va_P D vwCl v H := hz.2.1
  have hS := hz.2.2
  have ha : ∀ i : Nat, i < n → s.heap.size ≤ a i := hd.2.2.2.1
  have hdis : ∀ i j : Nat, i < n → j < k → a i ≠ b j := hd.2.2.1
  refine va_calli (va_runV (As := As) (rest := rest) S (hM H.size) cw ⟨PzR_blind, va_recv hK.1 hP hc he, fun U hU hW => ⟨rfl, by rw [hU], by rw [hU]; exact hP, hK.warm hW, hT U hU hW.alike⟩⟩ rfl hn hsize rfl (lv_room hW) hdg hf) hS (fun q _ h => aN_law ha hS.1 h) (fun q h => aN_law ha hS.1 h) (fun r' u t H1 locs1 ht hvm hp hB hsz hk hS1 => ?_)
  subst hp
  exact kk H1 locs1 ⟨by rw [← ht]; exact hB, oth hdis hv hV hk, hS1⟩
end ZR
