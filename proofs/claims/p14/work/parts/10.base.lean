/-! What a state is, what a decompiled method is, and the rows that walk them (ours). -/
abbrev St : Type := Nat → Nat → Int32
def si (σ : St) (k : Nat) (v : Int32) : St := fun j => if j = k then (fun _ => v) else σ j
def sa (σ : St) (k i : Nat) (v : Int32) : St := fun j => if j = k then upd (σ k) i v else σ j
theorem ite_t {α : Type} {c : Prop} [Decidable c] {A B y : α} (hc : c) (h : (if c then A else B) = y) : A = y := by rw [if_pos hc] at h; exact h
theorem ite_f {α : Type} {c : Prop} [Decidable c] {A B y : α} (hc : ¬ c) (h : (if c then A else B) = y) : B = y := by rw [if_neg hc] at h; exact h
def ck {α : Type} (c : Prop) [Decidable c] (x : Option α) : Option α := if c then x else none
theorem ck_e {α : Type} {c : Prop} [Decidable c] {A : Option α} {y : α} (h : ck c A = some y) : c ∧ A = some y := by
  unfold ck at h
  by_cases hc : c
  · rw [if_pos hc] at h; exact ⟨hc, h⟩
  · rw [if_neg hc] at h; cases h
def bd1 {α β : Type} (x : Option α) (f : α → Option β) : Option β := match x with
  | some r => f r
  | none => none
theorem bd1_e {α β : Type} {x : Option α} {f : α → Option β} {y : β} (h : bd1 x f = some y) : ∃ r, x = some r ∧ f r = some y := by
  cases x with
  | none => cases h
  | some r => exact ⟨r, rfl, h⟩
def bd2 {α β γ : Type} (x : Option (α × β)) (f : α → β → Option γ) : Option γ := match x with
  | some (r, t) => f r t
  | none => none
theorem bd2_e {α β γ : Type} {x : Option (α × β)} {f : α → β → Option γ} {y : γ} (h : bd2 x f = some y) : ∃ r t, x = some (r, t) ∧ f r t = some y := by
  cases x with
  | none => cases h
  | some q => exact ⟨q.1, q.2, rfl, h⟩
/-- a boolean, as the machine narrows it, is itself -/
def zok (v : Int32) : Prop := v = 0 ∨ v = 1
theorem zok_n {v : Int32} (h : v = 0 ∨ v = 1) : narrow .boolean (.int v) = .int v := by rcases h with rfl | rfl <;> rfl
def okA (n : Nat) (a : Nat → Nat) : Prop := ∀ i j : Nat, i < n → j < n → a i = a j → i = j
def aN (n : Nat) (a : Nat → Nat) (sz : Nat) : Nat → Prop := fun q => (∃ k, k < n ∧ q = a k) ∨ sz ≤ q
def wk (n : Nat) (a : Nat → Nat) (w : va_W) : Prop := ∀ (i : Nat) (p : Nat × va_E), w[i]? = some p → i < n ∧ p.1 = a i
theorem wk_D {n : Nat} {a : Nat → Nat} {w : va_W} {sz : Nat} (hok : okA n a) (hw : wk n a w) : va_D (aN n a sz) w := by
  refine ⟨fun i j p q hp hq he => ?_, fun k q hq => ?_⟩
  · obtain ⟨h1, h2⟩ := hw i p hp
    obtain ⟨h3, h4⟩ := hw j q hq
    exact hok i j h1 h3 (by rw [← h2, ← h4]; exact he)
  · obtain ⟨h1, h2⟩ := hw k q hq
    exact Or.inl ⟨k, h1, h2⟩
theorem wk_map {n : Nat} {a : Nat → Nat} {w : va_W} (h : w.map Prod.fst = (List.range n).map a) : wk n a w := by
  intro i p hp
  have h1 : (w.map Prod.fst)[i]? = some p.1 := by rw [List.getElem?_map, hp]; rfl
  rw [h, List.getElem?_map] at h1
  by_cases hi : i < n
  · rw [List.getElem?_range hi] at h1
    exact ⟨hi, (Option.some.inj h1).symm⟩
  · rw [List.getElem?_eq_none (by simpa using Nat.le_of_not_lt hi)] at h1
    cases h1
/-- the nest's links that the class uses -/
def NsC (U : State) : Prop := va_Nw (.methodLinkNest RX5 11 yX1_init RX5) U ∧ va_Nw (.methodLinkNest RX5 18 yX3_init RX5) U ∧ va_Nw (.methodLinkNest RX3 11 yX0_init RX5) U ∧ va_Nw (.fieldLinkNest RX5 62 RX3 "items" "LFarReach$Items;" RX5) U ∧ va_Nw (.methodLinkNest RX5 25 yX0_init RX5) U ∧ va_Nw (.fieldLinkNest RX5 114 RX2 "islands" "LFarReach$Stock;" RX5) U ∧ va_Nw (.fieldLinkNest RX5 131 RX2 "constants" "LFarReach$Stock;" RX5) U ∧ va_Nw (.fieldLinkNest RX5 156 RX2 "longBranches" "I" RX5) U ∧ va_Nw (.fieldLinkNest RX5 143 RX2 "rounds" "I" RX5) U ∧ va_Nw (.fieldLinkNest RX5 146 RX2 "bytes" "I" RX5) U ∧ va_Nw (.fieldLinkNest RX5 149 RX2 "filled" "I" RX5) U ∧ va_Nw (.fieldLinkNest RX5 140 RX2 "failedAt" "I" RX5) U ∧ va_Nw (.fieldLinkNest RX5 152 RX2 "failedNumber" "I" RX5) U ∧ va_Nw (.methodLinkNest RX2 114 yX5_fillTo RX5) U ∧ va_Nw (.methodLinkNest RX2 142 yX5_far RX5) U
theorem NsC.warm {s U : State} (hW : s.WarmedH U.vm) (h : NsC s) : NsC U := ⟨va_Nw.warmM hW h.1, va_Nw.warmM hW h.2.1, va_Nw.warmM hW h.2.2.1, va_Nw.warmF hW h.2.2.2.1, va_Nw.warmM hW h.2.2.2.2.1, va_Nw.warmF hW h.2.2.2.2.2.1, va_Nw.warmF hW h.2.2.2.2.2.2.1, va_Nw.warmF hW h.2.2.2.2.2.2.2.1, va_Nw.warmF hW h.2.2.2.2.2.2.2.2.1, va_Nw.warmF hW h.2.2.2.2.2.2.2.2.2.1, va_Nw.warmF hW h.2.2.2.2.2.2.2.2.2.2.1, va_Nw.warmF hW h.2.2.2.2.2.2.2.2.2.2.2.1, va_Nw.warmF hW h.2.2.2.2.2.2.2.2.2.2.2.2.1, va_Nw.warmM hW h.2.2.2.2.2.2.2.2.2.2.2.2.2.1, va_Nw.warmM hW h.2.2.2.2.2.2.2.2.2.2.2.2.2.2⟩
theorem NsC.same {s U : State} (hv : s.vm = U.vm) (h : NsC s) : NsC U := ⟨va_Nw.same rfl hv h.1, va_Nw.same rfl hv h.2.1, va_Nw.same rfl hv h.2.2.1, va_Nw.same rfl hv h.2.2.2.1, va_Nw.same rfl hv h.2.2.2.2.1, va_Nw.same rfl hv h.2.2.2.2.2.1, va_Nw.same rfl hv h.2.2.2.2.2.2.1, va_Nw.same rfl hv h.2.2.2.2.2.2.2.1, va_Nw.same rfl hv h.2.2.2.2.2.2.2.2.1, va_Nw.same rfl hv h.2.2.2.2.2.2.2.2.2.1, va_Nw.same rfl hv h.2.2.2.2.2.2.2.2.2.2.1, va_Nw.same rfl hv h.2.2.2.2.2.2.2.2.2.2.2.1, va_Nw.same rfl hv h.2.2.2.2.2.2.2.2.2.2.2.2.1, va_Nw.same rfl hv h.2.2.2.2.2.2.2.2.2.2.2.2.2.1, va_Nw.same rfl hv h.2.2.2.2.2.2.2.2.2.2.2.2.2.2⟩
def KK (D : va_G) (cI cZ : ClassId) (U : State) : Prop := va_K D vwCl [(cI, .int), (cZ, .boolean)] U ∧ NsC U
theorem KK.warm {D : va_G} {cI cZ : ClassId} {s U : State} (hW : s.WarmedH U.vm) (h : KK D cI cZ s) : KK D cI cZ U := ⟨va_K.moved hW.alike h.1, h.2.warm hW⟩
/-- a contract's start: the world w, at a heap of sz cells -/
def Pz (D : va_G) (cI cZ : ClassId) (w : va_W) (sz : Nat) (av : List Value) : Array Value → State → Prop :=
  va_Pc av (fun U => U.heap.size = sz ∧ va_P D vwCl w U.heap ∧ KK D cI cZ U)
def Qzi (D : va_G) (n : Nat) (a : Nat → Nat) (w : va_W) (sz : Nat) (r : Int32) : Array Value → State → Outcome → State → Prop :=
  va_Qi (fun r' (_ : Unit) => r' = r) (fun _ t => va_P D vwCl w t.heap) (aN n a sz)
def Qzl (D : va_G) (n : Nat) (a : Nat → Nat) (w : va_W) (sz : Nat) (r : Int64) : Array Value → State → Outcome → State → Prop :=
  va_Ql (fun r' (_ : Unit) => r' = r) (fun _ t => va_P D vwCl w t.heap) (aN n a sz)
def Qzv (D : va_G) (n : Nat) (a : Nat → Nat) (w : va_W) (sz : Nat) : Array Value → State → Outcome → State → Prop :=
  va_Qv (fun (_ : Unit) => True) (fun _ t => va_P D vwCl w t.heap) (aN n a sz)
/-- the class's two tables of bounds, as the statement gives them -/
def lr (j : Nat) : Int32 := if j = 0 then 2 else 4
def mr (j : Nat) : Int32 := if j = 0 then 60 else 120
def RTb (q1 q2 : Nat) (a : Nat → Nat) (U : State) : Prop :=
  va_Z "FarReach" "LEAST_REACH" "[I" (.ref q1) (aN 30 a U.heap.size) U U.heap ∧ va_T .int q1 3 (fun j => .int (lr j)) (aN 30 a U.heap.size) U U.heap ∧ va_Z "FarReach" "MOST_REACH" "[I" (.ref q2) (aN 30 a U.heap.size) U U.heap ∧ va_T .int q2 3 (fun j => .int (mr j)) (aN 30 a U.heap.size) U U.heap
def PzR (q1 q2 : Nat) (a : Nat → Nat) (D : va_G) (cI cZ : ClassId) (w : va_W) (sz : Nat) (av : List Value) : Array Value → State → Prop :=
  va_Pc av (fun U => U.heap.size = sz ∧ va_P D vwCl w U.heap ∧ KK D cI cZ U ∧ RTb q1 q2 a U)
/-- where a walk stands: the world w, and nothing else has changed since H0 -/
def zz (D : va_G) (n : Nat) (a : Nat → Nat) (w : va_W) (H0 H : Heap) (locs : List Loc) : Prop := va_P D vwCl w H ∧ va_S (aN n a H0.size) H0 H locs
theorem Pz_blind {D : va_G} {cI cZ : ClassId} {w : va_W} {sz : Nat} {av : List Value} : FrameBlind (Pz D cI cZ w sz av) := by
  intro a U g mk q
  obtain ⟨q0, q1, qP, qK, qN⟩ := q
  exact ⟨q0, q1, qP, va_K.moved (u := U) (U := U.calling g mk a) (Vm.Alike.refl U.vm) qK, qN.same rfl⟩
section ZC
variable {p : Program} {l : Launch} {e : Env} {R : Room} {s : State} {m : MethodId} {args : Array Value} {below : List Frame} {meth : Method} {c : Code} {H : Heap} {locs : List Loc} {cells slots : Nat} {Q : State → Prop}
variable {y : MethodName} {bytes cc : ByteArray} {maxL nL k index : Nat} {ret : Option FieldType} {ws : List Cond} {rm : Room} {Ts : List Cond} {own C host : String} {b : Addr} {As rest st0 : List Value} {D : va_G} {cI cZ : ClassId} {n : Nat} {a : Nat → Nat} {w w' : va_W} {pc : Nat} {ls : Array Slot} {T : u_T} {N : Nat} {fs : List Value}
theorem aN_up {H0 : Heap} {q : Nat} (h : H0.size ≤ H.size) (hq : aN n a H.size q) : aN n a H0.size q := hq.elim Or.inl (fun z => Or.inr (Nat.le_trans h z))
theorem zcallVi {r : Int32} (S : CallFix p m c cc nL s args Ts own) (hK : KK D cI cZ s) (hM : ∀ sz, Met l y ws rm (Pz D cI cZ w sz (.ref b :: As)) (Qzi D n a w' sz r) 0 0 (aN n a sz))
    (cw : CallW R s args own C index y bytes maxL ret ws rm 0 0 k) (q0 ci : Nat) (he : w[q0]? = some (b, .inr (ci, fs))) (hc : vwCl[ci]? = some (C, T, N)) (hz : zz D n a w s.heap H locs)
    (hn : As.length = k) (hsize : ls.size = nL) (hst : st0 = As.reverse ++ .ref b :: rest) (hW : (rest.map fun v => v.category).sum ≤ 8) (hdg : decode cc pc = .ok (.invokevirtual index, 3)) (hf : cells ≤ R.cells ∧ slots ≤ R.slots)
    (kk : ∀ (H1 : Heap) (locs1 : List Loc), zz D n a w' s.heap H1 locs1 → W p l e R s m args below meth c H1 locs1 cells slots Q (F0 m (pc + 3) ls (.int r :: rest))) :
    W p l e R s m args below meth c H locs cells slots Q (F0 m pc ls st0) := by
  subst hst
  refine va_calli (va_runV (As := As) (rest := rest) S (hM H.size) cw ⟨Pz_blind, va_recv hK.1 hz.1 hc he, fun U hU hW => ⟨rfl, by rw [hU], by rw [hU]; exact hz.1, hK.warm hW⟩⟩ rfl hn hsize rfl (lv_room hW) hdg hf) hz.2 (fun q _ h => aN_up hz.2.1 h) (fun q h => aN_up hz.2.1 h) (fun r' u t H1 locs1 ht hvm hp hB hsz hk hS => ?_)
  subst hp
  exact kk H1 locs1 ⟨by rw [← ht]; exact hB, hS⟩
theorem zcallVl {r : Int64} (S : CallFix p m c cc nL s args Ts own) (hK : KK D cI cZ s) (hM : ∀ sz, Met l y ws rm (Pz D cI cZ w sz (.ref b :: As)) (Qzl D n a w' sz r) 0 0 (aN n a sz))
    (cw : CallW R s args own C index y bytes maxL ret ws rm 0 0 k) (q0 ci : Nat) (he : w[q0]? = some (b, .inr (ci, fs))) (hc : vwCl[ci]? = some (C, T, N)) (hz : zz D n a w s.heap H locs)
    (hn : As.length = k) (hsize : ls.size = nL) (hst : st0 = As.reverse ++ .ref b :: rest) (hW : (rest.map fun v => v.category).sum ≤ 8) (hdg : decode cc pc = .ok (.invokevirtual index, 3)) (hf : cells ≤ R.cells ∧ slots ≤ R.slots)
    (kk : ∀ (H1 : Heap) (locs1 : List Loc), zz D n a w' s.heap H1 locs1 → W p l e R s m args below meth c H1 locs1 cells slots Q (F0 m (pc + 3) ls (.long r :: rest))) :
    W p l e R s m args below meth c H locs cells slots Q (F0 m pc ls st0) := by
  subst hst
  refine va_calll (va_runV (As := As) (rest := rest) S (hM H.size) cw ⟨Pz_blind, va_recv hK.1 hz.1 hc he, fun U hU hW => ⟨rfl, by rw [hU], by rw [hU]; exact hz.1, hK.warm hW⟩⟩ rfl hn hsize rfl (lv_room hW) hdg hf) hz.2 (fun q _ h => aN_up hz.2.1 h) (fun q h => aN_up hz.2.1 h) (fun r' u t H1 locs1 ht hvm hp hB hsz hk hS => ?_)
  subst hp
  exact kk H1 locs1 ⟨by rw [← ht]; exact hB, hS⟩
theorem zcallVv (S : CallFix p m c cc nL s args Ts own) (hK : KK D cI cZ s) (hM : ∀ sz, Met l y ws rm (Pz D cI cZ w sz (.ref b :: As)) (Qzv D n a w' sz) 0 0 (aN n a sz))
    (cw : CallW R s args own C index y bytes maxL ret ws rm 0 0 k) (q0 ci : Nat) (he : w[q0]? = some (b, .inr (ci, fs))) (hc : vwCl[ci]? = some (C, T, N)) (hz : zz D n a w s.heap H locs)
    (hn : As.length = k) (hsize : ls.size = nL) (hst : st0 = As.reverse ++ .ref b :: rest) (hW : (rest.map fun v => v.category).sum ≤ 8) (hdg : decode cc pc = .ok (.invokevirtual index, 3)) (hf : cells ≤ R.cells ∧ slots ≤ R.slots)
    (kk : ∀ (H1 : Heap) (locs1 : List Loc), zz D n a w' s.heap H1 locs1 → W p l e R s m args below meth c H1 locs1 cells slots Q (F0 m (pc + 3) ls rest)) :
    W p l e R s m args below meth c H locs cells slots Q (F0 m pc ls st0) := by
  subst hst
  refine va_callv (va_runV (As := As) (rest := rest) S (hM H.size) cw ⟨Pz_blind, va_recv hK.1 hz.1 hc he, fun U hU hW => ⟨rfl, by rw [hU], by rw [hU]; exact hz.1, hK.warm hW⟩⟩ rfl hn hsize rfl (lv_room hW) hdg hf) hz.2 (fun q _ h => aN_up hz.2.1 h) (fun q h => aN_up hz.2.1 h) (fun u t H1 locs1 ht hvm hp hB hsz hk hS => ?_)
  exact kk H1 locs1 ⟨by rw [← ht]; exact hB, hS⟩
theorem zcallSi {r : Int32} (S : CallFix p m c cc nL s args Ts own) (hK : KK D cI cZ s) (hM : ∀ sz, Met l y ws rm (Pz D cI cZ w sz As) (Qzi D n a w' sz r) 0 0 (aN n a sz))
    (cw : CallB R s args own index y bytes maxL ret ws rm 0 0 k ∧ (Cond.static y).before args s = true) (hz : zz D n a w s.heap H locs)
    (hn : As.length = k) (hsize : ls.size = nL) (hst : st0 = As.reverse ++ rest) (hW : (rest.map fun v => v.category).sum ≤ 8) (hdg : decode cc pc = .ok (.invokestatic index, 3)) (hf : cells ≤ R.cells ∧ slots ≤ R.slots)
    (kk : ∀ (H1 : Heap) (locs1 : List Loc), zz D n a w' s.heap H1 locs1 → W p l e R s m args below meth c H1 locs1 cells slots Q (F0 m (pc + 3) ls (.int r :: rest))) :
    W p l e R s m args below meth c H locs cells slots Q (F0 m pc ls st0) := by
  subst hst
  refine va_calli (va_runS (As := As) (rest := rest) S (hM H.size) cw ⟨Pz_blind, fun U hU hW => ⟨rfl, by rw [hU], by rw [hU]; exact hz.1, hK.warm hW⟩⟩ rfl hn hsize rfl (lv_room hW) hdg hf) hz.2 (fun q _ h => aN_up hz.2.1 h) (fun q h => aN_up hz.2.1 h) (fun r' u t H1 locs1 ht hvm hp hB hsz hk hS => ?_)
  subst hp
  exact kk H1 locs1 ⟨by rw [← ht]; exact hB, hS⟩
theorem zcallSNi {r : Int32} (S : CallFix p m c cc nL s args Ts own) (hK : KK D cI cZ s) (hM : ∀ sz, Met l y ws rm (Pz D cI cZ w sz As) (Qzi D n a w' sz r) 0 0 (aN n a sz))
    (cw : va_CN R s args own index y host bytes maxL ret ws rm 0 0 k ∧ (Cond.static y).before args s = true ∧ True) (hz : zz D n a w s.heap H locs)
    (hn : As.length = k) (hsize : ls.size = nL) (hst : st0 = As.reverse ++ rest) (hW : (rest.map fun v => v.category).sum ≤ 8) (hdg : decode cc pc = .ok (.invokestatic index, 3)) (hf : cells ≤ R.cells ∧ slots ≤ R.slots)
    (kk : ∀ (H1 : Heap) (locs1 : List Loc), zz D n a w' s.heap H1 locs1 → W p l e R s m args below meth c H1 locs1 cells slots Q (F0 m (pc + 3) ls (.int r :: rest))) :
    W p l e R s m args below meth c H locs cells slots Q (F0 m pc ls st0) := by
  subst hst
  refine va_calli (va_runSN (As := As) (rest := rest) S (hM H.size) cw ⟨Pz_blind, fun U hU hW => ⟨rfl, by rw [hU], by rw [hU]; exact hz.1, hK.warm hW⟩⟩ rfl hn hsize rfl (lv_room hW) hdg hf) hz.2 (fun q _ h => aN_up hz.2.1 h) (fun q h => aN_up hz.2.1 h) (fun r' u t H1 locs1 ht hvm hp hB hsz hk hS => ?_)
  subst hp
  exact kk H1 locs1 ⟨by rw [← ht]; exact hB, hS⟩
theorem zput (hexec : p.tables.exec = Jvm.exec) (hb : c.code = cc) {ref : String} {ci : Nat} (hts : ∀ w ∈ Ts, w.before args s = true) (hin : ∀ w ∈ u_ws C T N, w ∈ Ts) (ty0 : Nat → FieldType) (hty : ∀ k, k < N → parseFieldDescriptor (T k).2.2.1 = some (ty0 k)) (hnm : ∀ a, a < N → ∀ b, b < N → a ≠ b → (T a).2.1 ≠ (T b).2.1) (hown : s.vm.findClass own = some m.cls) (hK : KK D cI cZ s) (hok : okA n a) (hw : wk n a w) (hz : zz D n a w s.heap H locs) (q0 : Nat) (he : w[q0]? = some (b, .inr (ci, fs))) (hc : vwCl[ci]? = some (C, T, N)) (k : Nat) (hk : k < N) (hlink : (Cond.fieldLink own index ref (T k).2.1 (T k).2.2.1).before args s = true) (hsame : ∀ x, s.fieldFound? (T k).1 (T k).2.1 (T k).2.2.1 = some x → s.fieldFound? ref (T k).2.1 (T k).2.2.1 = some x) (hfin : (T k).2.2.2 = false) {ty : FieldType} {v : Value} (hd : parseFieldDescriptor (T k).2.2.1 = some ty) (hn : narrow ty v = v) (hfit : fits ty v = true) (hl : k < fs.length)
    (hset : w.set q0 (b, .inr (ci, fs.set k v)) = w') (hdg : decode cc pc = .ok (.putfield index, 3)) (kk : ∀ (H1 : Heap) (locs1 : List Loc), zz D n a w' s.heap H1 locs1 → W p l e R s m args below meth c H1 locs1 cells slots Q (F0 m (pc + 3) ls rest)) : W p l e R s m args below meth c H locs cells slots Q (F0 m pc ls (v :: .ref b :: rest)) := by
  refine va_put hexec hb hts hin ty0 hty hnm hown hK.1 hz.1 (wk_D hok hw) hz.2 q0 he hc k hk hlink hsame hfin hd hn hfit hl hdg (fun H1 locs1 hP hD hS => ?_)
  rw [hset] at hP
  exact kk H1 locs1 ⟨hP, hS⟩
theorem ziast (hexec : p.tables.exec = Jvm.exec) (hb : c.code = cc) (hK : KK D cI cZ s) (hok : okA n a) (hw : wk n a w) (hz : zz D n a w s.heap H locs) (q0 : Nat) {N : Nat} {f : Nat → Int32} (ha : w[q0]? = some (b, .inl (cI, N, .inl f))) {i x : Int32} (hin : vp_in i N)
    (hset : w.set q0 (b, .inl (cI, N, .inl (upd f i.toNatClampNeg x))) = w') (hdg : decode cc pc = .ok (.iastore, 1)) (kk : ∀ (H1 : Heap) (locs1 : List Loc), zz D n a w' s.heap H1 locs1 → W p l e R s m args below meth c H1 locs1 cells slots Q (F0 m (pc + 1) ls rest)) : W p l e R s m args below meth c H locs cells slots Q (F0 m pc ls (.int x :: .int i :: .ref b :: rest)) := by
  refine va_iast hexec hb hK.1 hz.1 (wk_D hok hw) hz.2 q0 0 ha rfl hin hdg (fun H1 locs1 hP hD hS => ?_)
  rw [hset] at hP
  exact kk H1 locs1 ⟨hP, hS⟩
theorem zzast (hexec : p.tables.exec = Jvm.exec) (hb : c.code = cc) (hK : KK D cI cZ s) (hok : okA n a) (hw : wk n a w) (hz : zz D n a w s.heap H locs) (q0 : Nat) {N : Nat} {f : Nat → Int32} (ha : w[q0]? = some (b, .inl (cZ, N, .inl f))) {i x x' : Int32} (hin : vp_in i N) (hx : vp_nar .boolean x = x')
    (hset : w.set q0 (b, .inl (cZ, N, .inl (upd f i.toNatClampNeg x'))) = w') (hdg : decode cc pc = .ok (.bastore, 1)) (kk : ∀ (H1 : Heap) (locs1 : List Loc), zz D n a w' s.heap H1 locs1 → W p l e R s m args below meth c H1 locs1 cells slots Q (F0 m (pc + 1) ls rest)) : W p l e R s m args below meth c H locs cells slots Q (F0 m pc ls (.int x :: .int i :: .ref b :: rest)) := by
  subst hx
  refine va_zast hexec hb hK.1 hz.1 (wk_D hok hw) hz.2 q0 1 ha rfl hin hdg (fun H1 locs1 hP hD hS => ?_)
  rw [hset] at hP
  exact kk H1 locs1 ⟨hP, hS⟩
theorem ziret {v : Int32} {sz : Nat} (hsz : s.heap.size = sz) (hexec : p.tables.exec = Jvm.exec) (hb : c.code = cc) (hr : meth.sig.returnType = some .int) (hlocks : meth.locks = false) (hz : zz D n a w s.heap H locs) (hdg : decode cc pc = .ok (.ireturn, 1)) : W p l e R s m args below meth c H locs 0 0 (MQ below (Qzi D n a w sz v) args s 0 0 (aN n a sz)) (F0 m pc ls [.int v]) := by
  subst hsz
  exact W.iret hexec hb hr (fun t ht hW => ⟨⟨v, (), rfl, rfl, by show va_P D vwCl w t.heap; rw [ht]; exact hz.1⟩, hz.2.F ht⟩) hz.2.2.2 hdg hlocks
theorem zzret {v : Int32} {sz : Nat} (hsz : s.heap.size = sz) (hexec : p.tables.exec = Jvm.exec) (hb : c.code = cc) (hr : meth.sig.returnType = some .boolean) (hlocks : meth.locks = false) (hv : v = 0 ∨ v = 1) (hz : zz D n a w s.heap H locs) (hdg : decode cc pc = .ok (.ireturn, 1)) : W p l e R s m args below meth c H locs 0 0 (MQ below (Qzi D n a w sz v) args s 0 0 (aN n a sz)) (F0 m pc ls [.int v]) := by
  subst hsz
  exact W.zret hexec hb hr (zok_n hv) (fun t ht hW => ⟨⟨v, (), rfl, rfl, by show va_P D vwCl w t.heap; rw [ht]; exact hz.1⟩, hz.2.F ht⟩) hz.2.2.2 hdg hlocks
theorem zlret {v : Int64} {sz : Nat} (hsz : s.heap.size = sz) (hexec : p.tables.exec = Jvm.exec) (hb : c.code = cc) (hr : meth.sig.returnType = some .long) (hlocks : meth.locks = false) (hz : zz D n a w s.heap H locs) (hdg : decode cc pc = .ok (.lreturn, 1)) : W p l e R s m args below meth c H locs 0 0 (MQ below (Qzl D n a w sz v) args s 0 0 (aN n a sz)) (F0 m pc ls [.long v]) := by
  subst hsz
  exact W.lret hexec hb hr (fun t ht hW => ⟨⟨v, (), rfl, rfl, by show va_P D vwCl w t.heap; rw [ht]; exact hz.1⟩, hz.2.F ht⟩) hz.2.2.2 hdg hlocks
theorem zvret {sz : Nat} (hsz : s.heap.size = sz) (hexec : p.tables.exec = Jvm.exec) (hb : c.code = cc) (hr : meth.sig.returnType = none) (hlocks : meth.locks = false) (hz : zz D n a w s.heap H locs) (hdg : decode cc pc = .ok (.return_, 1)) : W p l e R s m args below meth c H locs 0 0 (MQ below (Qzv D n a w sz) args s 0 0 (aN n a sz)) (F0 m pc ls []) := by
  subst hsz
  exact W.vret hexec hb hr (fun t ht hW => ⟨⟨(), rfl, trivial, by show va_P D vwCl w t.heap; rw [ht]; exact hz.1⟩, hz.2.F ht⟩) hz.2.2.2 hdg hlocks
end ZC

def wdC (cI cZ : ClassId) (a : Nat → Nat) (σ : St) : va_W := [(a 0, .inr (5, [.ref (a 1), .ref (a 3), .ref (a 7), .ref (a 10), .ref (a 11), .int (σ 40 0), .int (σ 41 0)])), (a 1, .inr (1, [.ref (a 2), .int (σ 42 0)])), (a 2, .inl (cI, 50, .inl (σ 2))), (a 3, .inr (3, [.ref (a 4), .int (σ 43 0), .int (σ 44 0), .int (σ 45 0)])), (a 4, .inr (0, [.ref (a 5), .ref (a 6), .int (σ 46 0), .int (σ 47 0)])), (a 5, .inl (cI, 24, .inl (σ 5))), (a 6, .inl (cI, 24, .inl (σ 6))), (a 7, .inr (0, [.ref (a 8), .ref (a 9), .int (σ 48 0), .int (σ 49 0)])), (a 8, .inl (cI, 24, .inl (σ 8))), (a 9, .inl (cI, 24, .inl (σ 9))), (a 10, .inl (cI, 3, .inl (σ 10))), (a 11, .inr (2, [.ref (a 7), .ref (a 10), .ref (a 12), .ref (a 18), .ref (a 24), .ref (a 25), .ref (a 26), .ref (a 27), .ref (a 28), .ref (a 29), .int (σ 50 0), .int (σ 51 0), .int (σ 52 0), .int (σ 53 0), .int (σ 54 0), .int (σ 55 0)])), (a 12, .inr (4, [.ref (a 13), .ref (a 14), .ref (a 15), .ref (a 16), .ref (a 17), .int (σ 56 0)])), (a 13, .inl (cI, 12, .inl (σ 13))), (a 14, .inl (cI, 12, .inl (σ 14))), (a 15, .inl (cI, 12, .inl (σ 15))), (a 16, .inl (cI, 24, .inl (σ 16))), (a 17, .inl (cI, 24, .inl (σ 17))), (a 18, .inr (4, [.ref (a 19), .ref (a 20), .ref (a 21), .ref (a 22), .ref (a 23), .int (σ 57 0)])), (a 19, .inl (cI, 16, .inl (σ 19))), (a 20, .inl (cI, 16, .inl (σ 20))), (a 21, .inl (cI, 16, .inl (σ 21))), (a 22, .inl (cI, 24, .inl (σ 22))), (a 23, .inl (cI, 24, .inl (σ 23))), (a 24, .inl (cZ, 24, .inl (σ 24))), (a 25, .inl (cI, 24, .inl (σ 25))), (a 26, .inl (cI, 24, .inl (σ 26))), (a 27, .inl (cI, 8, .inl (σ 27))), (a 28, .inl (cI, 24, .inl (σ 28))), (a 29, .inl (cI, 12, .inl (σ 29)))]
def wdM (cI cZ : ClassId) (a : Nat → Nat) (hh : Int64) (σ : St) : va_W := [(a 0, .inr (6, [.int (σ 40 0), .ref (a 1), .int (σ 41 0), .ref (a 2), .ref (a 3), .int (σ 42 0), .int (σ 43 0), .ref (a 4), .int (σ 44 0), .ref (a 5), .ref (a 6), .int (σ 45 0), .int (σ 46 0), .int (σ 47 0), .ref (a 7), .int (σ 48 0), .ref (a 8), .ref (a 9), .int (σ 49 0), .ref (a 10), .ref (a 11), .ref (a 12), .ref (a 13), .ref (a 14), .ref (a 15), .ref (a 16), .ref (a 17), .int (σ 50 0), .int (σ 51 0), .int (σ 52 0), .int (σ 53 0), .int (σ 54 0), .int (σ 55 0), .long hh])), (a 1, .inl (cI, 50, .inl (σ 1))), (a 2, .inl (cI, 24, .inl (σ 2))), (a 3, .inl (cI, 24, .inl (σ 3))), (a 4, .inl (cI, 3, .inl (σ 4))), (a 5, .inl (cI, 24, .inl (σ 5))), (a 6, .inl (cI, 24, .inl (σ 6))), (a 7, .inl (cZ, 24, .inl (σ 7))), (a 8, .inl (cI, 12, .inl (σ 8))), (a 9, .inl (cI, 12, .inl (σ 9))), (a 10, .inl (cI, 16, .inl (σ 10))), (a 11, .inl (cI, 16, .inl (σ 11))), (a 12, .inl (cI, 24, .inl (σ 12))), (a 13, .inl (cI, 12, .inl (σ 13))), (a 14, .inl (cI, 16, .inl (σ 14))), (a 15, .inl (cI, 24, .inl (σ 15))), (a 16, .inl (cI, 24, .inl (σ 16))), (a 17, .inl (cI, 8, .inl (σ 17)))]
theorem wkC {cI cZ : ClassId} {a : Nat → Nat} {σ : St} : wk 30 a (wdC cI cZ a σ) := wk_map rfl
theorem wkM {cI cZ : ClassId} {a : Nat → Nat} {hh : Int64} {σ : St} : wk 18 a (wdM cI cZ a hh σ) := wk_map rfl
def itr {α : Type} (F : α → α) (z : α) : Nat → α
  | 0 => z
  | n + 1 => F (itr F z n)
def FU : Nat := 4000
abbrev vp_inD (i : Int32) (n : Nat) : Prop := ¬ (i < 0 ∨ n ≤ i.toNatClampNeg)
theorem setCi_40 {cI cZ : ClassId} {a : Nat → Nat} {σ : St} {v : Int32} : (wdC cI cZ a σ).set 0 (a 0, .inr (5, [.ref (a 1), .ref (a 3), .ref (a 7), .ref (a 10), .ref (a 11), .int (σ 40 0), .int (σ 41 0)].set 5 (.int v))) = wdC cI cZ a (si σ 40 v) := rfl
theorem setCi_41 {cI cZ : ClassId} {a : Nat → Nat} {σ : St} {v : Int32} : (wdC cI cZ a σ).set 0 (a 0, .inr (5, [.ref (a 1), .ref (a 3), .ref (a 7), .ref (a 10), .ref (a 11), .int (σ 40 0), .int (σ 41 0)].set 6 (.int v))) = wdC cI cZ a (si σ 41 v) := rfl
theorem setCi_42 {cI cZ : ClassId} {a : Nat → Nat} {σ : St} {v : Int32} : (wdC cI cZ a σ).set 1 (a 1, .inr (1, [.ref (a 2), .int (σ 42 0)].set 1 (.int v))) = wdC cI cZ a (si σ 42 v) := rfl
theorem setCa_2 {cI cZ : ClassId} {a : Nat → Nat} {σ : St} {i : Nat} {v : Int32} : (wdC cI cZ a σ).set 2 (a 2, .inl (cI, 50, .inl (upd (σ 2) i v))) = wdC cI cZ a (sa σ 2 i v) := rfl
theorem setCi_43 {cI cZ : ClassId} {a : Nat → Nat} {σ : St} {v : Int32} : (wdC cI cZ a σ).set 3 (a 3, .inr (3, [.ref (a 4), .int (σ 43 0), .int (σ 44 0), .int (σ 45 0)].set 1 (.int v))) = wdC cI cZ a (si σ 43 v) := rfl
theorem setCi_44 {cI cZ : ClassId} {a : Nat → Nat} {σ : St} {v : Int32} : (wdC cI cZ a σ).set 3 (a 3, .inr (3, [.ref (a 4), .int (σ 43 0), .int (σ 44 0), .int (σ 45 0)].set 2 (.int v))) = wdC cI cZ a (si σ 44 v) := rfl
theorem setCi_45 {cI cZ : ClassId} {a : Nat → Nat} {σ : St} {v : Int32} : (wdC cI cZ a σ).set 3 (a 3, .inr (3, [.ref (a 4), .int (σ 43 0), .int (σ 44 0), .int (σ 45 0)].set 3 (.int v))) = wdC cI cZ a (si σ 45 v) := rfl
theorem setCi_46 {cI cZ : ClassId} {a : Nat → Nat} {σ : St} {v : Int32} : (wdC cI cZ a σ).set 4 (a 4, .inr (0, [.ref (a 5), .ref (a 6), .int (σ 46 0), .int (σ 47 0)].set 2 (.int v))) = wdC cI cZ a (si σ 46 v) := rfl
theorem setCi_47 {cI cZ : ClassId} {a : Nat → Nat} {σ : St} {v : Int32} : (wdC cI cZ a σ).set 4 (a 4, .inr (0, [.ref (a 5), .ref (a 6), .int (σ 46 0), .int (σ 47 0)].set 3 (.int v))) = wdC cI cZ a (si σ 47 v) := rfl
theorem setCa_5 {cI cZ : ClassId} {a : Nat → Nat} {σ : St} {i : Nat} {v : Int32} : (wdC cI cZ a σ).set 5 (a 5, .inl (cI, 24, .inl (upd (σ 5) i v))) = wdC cI cZ a (sa σ 5 i v) := rfl
theorem setCa_6 {cI cZ : ClassId} {a : Nat → Nat} {σ : St} {i : Nat} {v : Int32} : (wdC cI cZ a σ).set 6 (a 6, .inl (cI, 24, .inl (upd (σ 6) i v))) = wdC cI cZ a (sa σ 6 i v) := rfl
theorem setCi_48 {cI cZ : ClassId} {a : Nat → Nat} {σ : St} {v : Int32} : (wdC cI cZ a σ).set 7 (a 7, .inr (0, [.ref (a 8), .ref (a 9), .int (σ 48 0), .int (σ 49 0)].set 2 (.int v))) = wdC cI cZ a (si σ 48 v) := rfl
theorem setCi_49 {cI cZ : ClassId} {a : Nat → Nat} {σ : St} {v : Int32} : (wdC cI cZ a σ).set 7 (a 7, .inr (0, [.ref (a 8), .ref (a 9), .int (σ 48 0), .int (σ 49 0)].set 3 (.int v))) = wdC cI cZ a (si σ 49 v) := rfl
theorem setCa_8 {cI cZ : ClassId} {a : Nat → Nat} {σ : St} {i : Nat} {v : Int32} : (wdC cI cZ a σ).set 8 (a 8, .inl (cI, 24, .inl (upd (σ 8) i v))) = wdC cI cZ a (sa σ 8 i v) := rfl
theorem setCa_9 {cI cZ : ClassId} {a : Nat → Nat} {σ : St} {i : Nat} {v : Int32} : (wdC cI cZ a σ).set 9 (a 9, .inl (cI, 24, .inl (upd (σ 9) i v))) = wdC cI cZ a (sa σ 9 i v) := rfl
theorem setCa_10 {cI cZ : ClassId} {a : Nat → Nat} {σ : St} {i : Nat} {v : Int32} : (wdC cI cZ a σ).set 10 (a 10, .inl (cI, 3, .inl (upd (σ 10) i v))) = wdC cI cZ a (sa σ 10 i v) := rfl
theorem setCi_50 {cI cZ : ClassId} {a : Nat → Nat} {σ : St} {v : Int32} : (wdC cI cZ a σ).set 11 (a 11, .inr (2, [.ref (a 7), .ref (a 10), .ref (a 12), .ref (a 18), .ref (a 24), .ref (a 25), .ref (a 26), .ref (a 27), .ref (a 28), .ref (a 29), .int (σ 50 0), .int (σ 51 0), .int (σ 52 0), .int (σ 53 0), .int (σ 54 0), .int (σ 55 0)].set 10 (.int v))) = wdC cI cZ a (si σ 50 v) := rfl
theorem setCi_51 {cI cZ : ClassId} {a : Nat → Nat} {σ : St} {v : Int32} : (wdC cI cZ a σ).set 11 (a 11, .inr (2, [.ref (a 7), .ref (a 10), .ref (a 12), .ref (a 18), .ref (a 24), .ref (a 25), .ref (a 26), .ref (a 27), .ref (a 28), .ref (a 29), .int (σ 50 0), .int (σ 51 0), .int (σ 52 0), .int (σ 53 0), .int (σ 54 0), .int (σ 55 0)].set 11 (.int v))) = wdC cI cZ a (si σ 51 v) := rfl
theorem setCi_52 {cI cZ : ClassId} {a : Nat → Nat} {σ : St} {v : Int32} : (wdC cI cZ a σ).set 11 (a 11, .inr (2, [.ref (a 7), .ref (a 10), .ref (a 12), .ref (a 18), .ref (a 24), .ref (a 25), .ref (a 26), .ref (a 27), .ref (a 28), .ref (a 29), .int (σ 50 0), .int (σ 51 0), .int (σ 52 0), .int (σ 53 0), .int (σ 54 0), .int (σ 55 0)].set 12 (.int v))) = wdC cI cZ a (si σ 52 v) := rfl
theorem setCi_53 {cI cZ : ClassId} {a : Nat → Nat} {σ : St} {v : Int32} : (wdC cI cZ a σ).set 11 (a 11, .inr (2, [.ref (a 7), .ref (a 10), .ref (a 12), .ref (a 18), .ref (a 24), .ref (a 25), .ref (a 26), .ref (a 27), .ref (a 28), .ref (a 29), .int (σ 50 0), .int (σ 51 0), .int (σ 52 0), .int (σ 53 0), .int (σ 54 0), .int (σ 55 0)].set 13 (.int v))) = wdC cI cZ a (si σ 53 v) := rfl
theorem setCi_54 {cI cZ : ClassId} {a : Nat → Nat} {σ : St} {v : Int32} : (wdC cI cZ a σ).set 11 (a 11, .inr (2, [.ref (a 7), .ref (a 10), .ref (a 12), .ref (a 18), .ref (a 24), .ref (a 25), .ref (a 26), .ref (a 27), .ref (a 28), .ref (a 29), .int (σ 50 0), .int (σ 51 0), .int (σ 52 0), .int (σ 53 0), .int (σ 54 0), .int (σ 55 0)].set 14 (.int v))) = wdC cI cZ a (si σ 54 v) := rfl
theorem setCi_55 {cI cZ : ClassId} {a : Nat → Nat} {σ : St} {v : Int32} : (wdC cI cZ a σ).set 11 (a 11, .inr (2, [.ref (a 7), .ref (a 10), .ref (a 12), .ref (a 18), .ref (a 24), .ref (a 25), .ref (a 26), .ref (a 27), .ref (a 28), .ref (a 29), .int (σ 50 0), .int (σ 51 0), .int (σ 52 0), .int (σ 53 0), .int (σ 54 0), .int (σ 55 0)].set 15 (.int v))) = wdC cI cZ a (si σ 55 v) := rfl
theorem setCi_56 {cI cZ : ClassId} {a : Nat → Nat} {σ : St} {v : Int32} : (wdC cI cZ a σ).set 12 (a 12, .inr (4, [.ref (a 13), .ref (a 14), .ref (a 15), .ref (a 16), .ref (a 17), .int (σ 56 0)].set 5 (.int v))) = wdC cI cZ a (si σ 56 v) := rfl
theorem setCa_13 {cI cZ : ClassId} {a : Nat → Nat} {σ : St} {i : Nat} {v : Int32} : (wdC cI cZ a σ).set 13 (a 13, .inl (cI, 12, .inl (upd (σ 13) i v))) = wdC cI cZ a (sa σ 13 i v) := rfl
theorem setCa_14 {cI cZ : ClassId} {a : Nat → Nat} {σ : St} {i : Nat} {v : Int32} : (wdC cI cZ a σ).set 14 (a 14, .inl (cI, 12, .inl (upd (σ 14) i v))) = wdC cI cZ a (sa σ 14 i v) := rfl
theorem setCa_15 {cI cZ : ClassId} {a : Nat → Nat} {σ : St} {i : Nat} {v : Int32} : (wdC cI cZ a σ).set 15 (a 15, .inl (cI, 12, .inl (upd (σ 15) i v))) = wdC cI cZ a (sa σ 15 i v) := rfl
theorem setCa_16 {cI cZ : ClassId} {a : Nat → Nat} {σ : St} {i : Nat} {v : Int32} : (wdC cI cZ a σ).set 16 (a 16, .inl (cI, 24, .inl (upd (σ 16) i v))) = wdC cI cZ a (sa σ 16 i v) := rfl
theorem setCa_17 {cI cZ : ClassId} {a : Nat → Nat} {σ : St} {i : Nat} {v : Int32} : (wdC cI cZ a σ).set 17 (a 17, .inl (cI, 24, .inl (upd (σ 17) i v))) = wdC cI cZ a (sa σ 17 i v) := rfl
theorem setCi_57 {cI cZ : ClassId} {a : Nat → Nat} {σ : St} {v : Int32} : (wdC cI cZ a σ).set 18 (a 18, .inr (4, [.ref (a 19), .ref (a 20), .ref (a 21), .ref (a 22), .ref (a 23), .int (σ 57 0)].set 5 (.int v))) = wdC cI cZ a (si σ 57 v) := rfl
theorem setCa_19 {cI cZ : ClassId} {a : Nat → Nat} {σ : St} {i : Nat} {v : Int32} : (wdC cI cZ a σ).set 19 (a 19, .inl (cI, 16, .inl (upd (σ 19) i v))) = wdC cI cZ a (sa σ 19 i v) := rfl
theorem setCa_20 {cI cZ : ClassId} {a : Nat → Nat} {σ : St} {i : Nat} {v : Int32} : (wdC cI cZ a σ).set 20 (a 20, .inl (cI, 16, .inl (upd (σ 20) i v))) = wdC cI cZ a (sa σ 20 i v) := rfl
theorem setCa_21 {cI cZ : ClassId} {a : Nat → Nat} {σ : St} {i : Nat} {v : Int32} : (wdC cI cZ a σ).set 21 (a 21, .inl (cI, 16, .inl (upd (σ 21) i v))) = wdC cI cZ a (sa σ 21 i v) := rfl
theorem setCa_22 {cI cZ : ClassId} {a : Nat → Nat} {σ : St} {i : Nat} {v : Int32} : (wdC cI cZ a σ).set 22 (a 22, .inl (cI, 24, .inl (upd (σ 22) i v))) = wdC cI cZ a (sa σ 22 i v) := rfl
theorem setCa_23 {cI cZ : ClassId} {a : Nat → Nat} {σ : St} {i : Nat} {v : Int32} : (wdC cI cZ a σ).set 23 (a 23, .inl (cI, 24, .inl (upd (σ 23) i v))) = wdC cI cZ a (sa σ 23 i v) := rfl
theorem setCa_24 {cI cZ : ClassId} {a : Nat → Nat} {σ : St} {i : Nat} {v : Int32} : (wdC cI cZ a σ).set 24 (a 24, .inl (cZ, 24, .inl (upd (σ 24) i v))) = wdC cI cZ a (sa σ 24 i v) := rfl
theorem setCa_25 {cI cZ : ClassId} {a : Nat → Nat} {σ : St} {i : Nat} {v : Int32} : (wdC cI cZ a σ).set 25 (a 25, .inl (cI, 24, .inl (upd (σ 25) i v))) = wdC cI cZ a (sa σ 25 i v) := rfl
theorem setCa_26 {cI cZ : ClassId} {a : Nat → Nat} {σ : St} {i : Nat} {v : Int32} : (wdC cI cZ a σ).set 26 (a 26, .inl (cI, 24, .inl (upd (σ 26) i v))) = wdC cI cZ a (sa σ 26 i v) := rfl
theorem setCa_27 {cI cZ : ClassId} {a : Nat → Nat} {σ : St} {i : Nat} {v : Int32} : (wdC cI cZ a σ).set 27 (a 27, .inl (cI, 8, .inl (upd (σ 27) i v))) = wdC cI cZ a (sa σ 27 i v) := rfl
theorem setCa_28 {cI cZ : ClassId} {a : Nat → Nat} {σ : St} {i : Nat} {v : Int32} : (wdC cI cZ a σ).set 28 (a 28, .inl (cI, 24, .inl (upd (σ 28) i v))) = wdC cI cZ a (sa σ 28 i v) := rfl
theorem setCa_29 {cI cZ : ClassId} {a : Nat → Nat} {σ : St} {i : Nat} {v : Int32} : (wdC cI cZ a σ).set 29 (a 29, .inl (cI, 12, .inl (upd (σ 29) i v))) = wdC cI cZ a (sa σ 29 i v) := rfl
theorem setMi_40 {cI cZ : ClassId} {a : Nat → Nat} {hh : Int64} {σ : St} {v : Int32} : (wdM cI cZ a hh σ).set 0 (a 0, .inr (6, [.int (σ 40 0), .ref (a 1), .int (σ 41 0), .ref (a 2), .ref (a 3), .int (σ 42 0), .int (σ 43 0), .ref (a 4), .int (σ 44 0), .ref (a 5), .ref (a 6), .int (σ 45 0), .int (σ 46 0), .int (σ 47 0), .ref (a 7), .int (σ 48 0), .ref (a 8), .ref (a 9), .int (σ 49 0), .ref (a 10), .ref (a 11), .ref (a 12), .ref (a 13), .ref (a 14), .ref (a 15), .ref (a 16), .ref (a 17), .int (σ 50 0), .int (σ 51 0), .int (σ 52 0), .int (σ 53 0), .int (σ 54 0), .int (σ 55 0), .long hh].set 0 (.int v))) = wdM cI cZ a hh (si σ 40 v) := rfl
theorem setMi_41 {cI cZ : ClassId} {a : Nat → Nat} {hh : Int64} {σ : St} {v : Int32} : (wdM cI cZ a hh σ).set 0 (a 0, .inr (6, [.int (σ 40 0), .ref (a 1), .int (σ 41 0), .ref (a 2), .ref (a 3), .int (σ 42 0), .int (σ 43 0), .ref (a 4), .int (σ 44 0), .ref (a 5), .ref (a 6), .int (σ 45 0), .int (σ 46 0), .int (σ 47 0), .ref (a 7), .int (σ 48 0), .ref (a 8), .ref (a 9), .int (σ 49 0), .ref (a 10), .ref (a 11), .ref (a 12), .ref (a 13), .ref (a 14), .ref (a 15), .ref (a 16), .ref (a 17), .int (σ 50 0), .int (σ 51 0), .int (σ 52 0), .int (σ 53 0), .int (σ 54 0), .int (σ 55 0), .long hh].set 2 (.int v))) = wdM cI cZ a hh (si σ 41 v) := rfl
theorem setMi_42 {cI cZ : ClassId} {a : Nat → Nat} {hh : Int64} {σ : St} {v : Int32} : (wdM cI cZ a hh σ).set 0 (a 0, .inr (6, [.int (σ 40 0), .ref (a 1), .int (σ 41 0), .ref (a 2), .ref (a 3), .int (σ 42 0), .int (σ 43 0), .ref (a 4), .int (σ 44 0), .ref (a 5), .ref (a 6), .int (σ 45 0), .int (σ 46 0), .int (σ 47 0), .ref (a 7), .int (σ 48 0), .ref (a 8), .ref (a 9), .int (σ 49 0), .ref (a 10), .ref (a 11), .ref (a 12), .ref (a 13), .ref (a 14), .ref (a 15), .ref (a 16), .ref (a 17), .int (σ 50 0), .int (σ 51 0), .int (σ 52 0), .int (σ 53 0), .int (σ 54 0), .int (σ 55 0), .long hh].set 5 (.int v))) = wdM cI cZ a hh (si σ 42 v) := rfl
theorem setMi_43 {cI cZ : ClassId} {a : Nat → Nat} {hh : Int64} {σ : St} {v : Int32} : (wdM cI cZ a hh σ).set 0 (a 0, .inr (6, [.int (σ 40 0), .ref (a 1), .int (σ 41 0), .ref (a 2), .ref (a 3), .int (σ 42 0), .int (σ 43 0), .ref (a 4), .int (σ 44 0), .ref (a 5), .ref (a 6), .int (σ 45 0), .int (σ 46 0), .int (σ 47 0), .ref (a 7), .int (σ 48 0), .ref (a 8), .ref (a 9), .int (σ 49 0), .ref (a 10), .ref (a 11), .ref (a 12), .ref (a 13), .ref (a 14), .ref (a 15), .ref (a 16), .ref (a 17), .int (σ 50 0), .int (σ 51 0), .int (σ 52 0), .int (σ 53 0), .int (σ 54 0), .int (σ 55 0), .long hh].set 6 (.int v))) = wdM cI cZ a hh (si σ 43 v) := rfl
theorem setMi_44 {cI cZ : ClassId} {a : Nat → Nat} {hh : Int64} {σ : St} {v : Int32} : (wdM cI cZ a hh σ).set 0 (a 0, .inr (6, [.int (σ 40 0), .ref (a 1), .int (σ 41 0), .ref (a 2), .ref (a 3), .int (σ 42 0), .int (σ 43 0), .ref (a 4), .int (σ 44 0), .ref (a 5), .ref (a 6), .int (σ 45 0), .int (σ 46 0), .int (σ 47 0), .ref (a 7), .int (σ 48 0), .ref (a 8), .ref (a 9), .int (σ 49 0), .ref (a 10), .ref (a 11), .ref (a 12), .ref (a 13), .ref (a 14), .ref (a 15), .ref (a 16), .ref (a 17), .int (σ 50 0), .int (σ 51 0), .int (σ 52 0), .int (σ 53 0), .int (σ 54 0), .int (σ 55 0), .long hh].set 8 (.int v))) = wdM cI cZ a hh (si σ 44 v) := rfl
theorem setMi_45 {cI cZ : ClassId} {a : Nat → Nat} {hh : Int64} {σ : St} {v : Int32} : (wdM cI cZ a hh σ).set 0 (a 0, .inr (6, [.int (σ 40 0), .ref (a 1), .int (σ 41 0), .ref (a 2), .ref (a 3), .int (σ 42 0), .int (σ 43 0), .ref (a 4), .int (σ 44 0), .ref (a 5), .ref (a 6), .int (σ 45 0), .int (σ 46 0), .int (σ 47 0), .ref (a 7), .int (σ 48 0), .ref (a 8), .ref (a 9), .int (σ 49 0), .ref (a 10), .ref (a 11), .ref (a 12), .ref (a 13), .ref (a 14), .ref (a 15), .ref (a 16), .ref (a 17), .int (σ 50 0), .int (σ 51 0), .int (σ 52 0), .int (σ 53 0), .int (σ 54 0), .int (σ 55 0), .long hh].set 11 (.int v))) = wdM cI cZ a hh (si σ 45 v) := rfl
theorem setMi_46 {cI cZ : ClassId} {a : Nat → Nat} {hh : Int64} {σ : St} {v : Int32} : (wdM cI cZ a hh σ).set 0 (a 0, .inr (6, [.int (σ 40 0), .ref (a 1), .int (σ 41 0), .ref (a 2), .ref (a 3), .int (σ 42 0), .int (σ 43 0), .ref (a 4), .int (σ 44 0), .ref (a 5), .ref (a 6), .int (σ 45 0), .int (σ 46 0), .int (σ 47 0), .ref (a 7), .int (σ 48 0), .ref (a 8), .ref (a 9), .int (σ 49 0), .ref (a 10), .ref (a 11), .ref (a 12), .ref (a 13), .ref (a 14), .ref (a 15), .ref (a 16), .ref (a 17), .int (σ 50 0), .int (σ 51 0), .int (σ 52 0), .int (σ 53 0), .int (σ 54 0), .int (σ 55 0), .long hh].set 12 (.int v))) = wdM cI cZ a hh (si σ 46 v) := rfl
theorem setMi_47 {cI cZ : ClassId} {a : Nat → Nat} {hh : Int64} {σ : St} {v : Int32} : (wdM cI cZ a hh σ).set 0 (a 0, .inr (6, [.int (σ 40 0), .ref (a 1), .int (σ 41 0), .ref (a 2), .ref (a 3), .int (σ 42 0), .int (σ 43 0), .ref (a 4), .int (σ 44 0), .ref (a 5), .ref (a 6), .int (σ 45 0), .int (σ 46 0), .int (σ 47 0), .ref (a 7), .int (σ 48 0), .ref (a 8), .ref (a 9), .int (σ 49 0), .ref (a 10), .ref (a 11), .ref (a 12), .ref (a 13), .ref (a 14), .ref (a 15), .ref (a 16), .ref (a 17), .int (σ 50 0), .int (σ 51 0), .int (σ 52 0), .int (σ 53 0), .int (σ 54 0), .int (σ 55 0), .long hh].set 13 (.int v))) = wdM cI cZ a hh (si σ 47 v) := rfl
theorem setMi_48 {cI cZ : ClassId} {a : Nat → Nat} {hh : Int64} {σ : St} {v : Int32} : (wdM cI cZ a hh σ).set 0 (a 0, .inr (6, [.int (σ 40 0), .ref (a 1), .int (σ 41 0), .ref (a 2), .ref (a 3), .int (σ 42 0), .int (σ 43 0), .ref (a 4), .int (σ 44 0), .ref (a 5), .ref (a 6), .int (σ 45 0), .int (σ 46 0), .int (σ 47 0), .ref (a 7), .int (σ 48 0), .ref (a 8), .ref (a 9), .int (σ 49 0), .ref (a 10), .ref (a 11), .ref (a 12), .ref (a 13), .ref (a 14), .ref (a 15), .ref (a 16), .ref (a 17), .int (σ 50 0), .int (σ 51 0), .int (σ 52 0), .int (σ 53 0), .int (σ 54 0), .int (σ 55 0), .long hh].set 15 (.int v))) = wdM cI cZ a hh (si σ 48 v) := rfl
theorem setMi_49 {cI cZ : ClassId} {a : Nat → Nat} {hh : Int64} {σ : St} {v : Int32} : (wdM cI cZ a hh σ).set 0 (a 0, .inr (6, [.int (σ 40 0), .ref (a 1), .int (σ 41 0), .ref (a 2), .ref (a 3), .int (σ 42 0), .int (σ 43 0), .ref (a 4), .int (σ 44 0), .ref (a 5), .ref (a 6), .int (σ 45 0), .int (σ 46 0), .int (σ 47 0), .ref (a 7), .int (σ 48 0), .ref (a 8), .ref (a 9), .int (σ 49 0), .ref (a 10), .ref (a 11), .ref (a 12), .ref (a 13), .ref (a 14), .ref (a 15), .ref (a 16), .ref (a 17), .int (σ 50 0), .int (σ 51 0), .int (σ 52 0), .int (σ 53 0), .int (σ 54 0), .int (σ 55 0), .long hh].set 18 (.int v))) = wdM cI cZ a hh (si σ 49 v) := rfl
theorem setMi_50 {cI cZ : ClassId} {a : Nat → Nat} {hh : Int64} {σ : St} {v : Int32} : (wdM cI cZ a hh σ).set 0 (a 0, .inr (6, [.int (σ 40 0), .ref (a 1), .int (σ 41 0), .ref (a 2), .ref (a 3), .int (σ 42 0), .int (σ 43 0), .ref (a 4), .int (σ 44 0), .ref (a 5), .ref (a 6), .int (σ 45 0), .int (σ 46 0), .int (σ 47 0), .ref (a 7), .int (σ 48 0), .ref (a 8), .ref (a 9), .int (σ 49 0), .ref (a 10), .ref (a 11), .ref (a 12), .ref (a 13), .ref (a 14), .ref (a 15), .ref (a 16), .ref (a 17), .int (σ 50 0), .int (σ 51 0), .int (σ 52 0), .int (σ 53 0), .int (σ 54 0), .int (σ 55 0), .long hh].set 27 (.int v))) = wdM cI cZ a hh (si σ 50 v) := rfl
theorem setMi_51 {cI cZ : ClassId} {a : Nat → Nat} {hh : Int64} {σ : St} {v : Int32} : (wdM cI cZ a hh σ).set 0 (a 0, .inr (6, [.int (σ 40 0), .ref (a 1), .int (σ 41 0), .ref (a 2), .ref (a 3), .int (σ 42 0), .int (σ 43 0), .ref (a 4), .int (σ 44 0), .ref (a 5), .ref (a 6), .int (σ 45 0), .int (σ 46 0), .int (σ 47 0), .ref (a 7), .int (σ 48 0), .ref (a 8), .ref (a 9), .int (σ 49 0), .ref (a 10), .ref (a 11), .ref (a 12), .ref (a 13), .ref (a 14), .ref (a 15), .ref (a 16), .ref (a 17), .int (σ 50 0), .int (σ 51 0), .int (σ 52 0), .int (σ 53 0), .int (σ 54 0), .int (σ 55 0), .long hh].set 28 (.int v))) = wdM cI cZ a hh (si σ 51 v) := rfl
theorem setMi_52 {cI cZ : ClassId} {a : Nat → Nat} {hh : Int64} {σ : St} {v : Int32} : (wdM cI cZ a hh σ).set 0 (a 0, .inr (6, [.int (σ 40 0), .ref (a 1), .int (σ 41 0), .ref (a 2), .ref (a 3), .int (σ 42 0), .int (σ 43 0), .ref (a 4), .int (σ 44 0), .ref (a 5), .ref (a 6), .int (σ 45 0), .int (σ 46 0), .int (σ 47 0), .ref (a 7), .int (σ 48 0), .ref (a 8), .ref (a 9), .int (σ 49 0), .ref (a 10), .ref (a 11), .ref (a 12), .ref (a 13), .ref (a 14), .ref (a 15), .ref (a 16), .ref (a 17), .int (σ 50 0), .int (σ 51 0), .int (σ 52 0), .int (σ 53 0), .int (σ 54 0), .int (σ 55 0), .long hh].set 29 (.int v))) = wdM cI cZ a hh (si σ 52 v) := rfl
theorem setMi_53 {cI cZ : ClassId} {a : Nat → Nat} {hh : Int64} {σ : St} {v : Int32} : (wdM cI cZ a hh σ).set 0 (a 0, .inr (6, [.int (σ 40 0), .ref (a 1), .int (σ 41 0), .ref (a 2), .ref (a 3), .int (σ 42 0), .int (σ 43 0), .ref (a 4), .int (σ 44 0), .ref (a 5), .ref (a 6), .int (σ 45 0), .int (σ 46 0), .int (σ 47 0), .ref (a 7), .int (σ 48 0), .ref (a 8), .ref (a 9), .int (σ 49 0), .ref (a 10), .ref (a 11), .ref (a 12), .ref (a 13), .ref (a 14), .ref (a 15), .ref (a 16), .ref (a 17), .int (σ 50 0), .int (σ 51 0), .int (σ 52 0), .int (σ 53 0), .int (σ 54 0), .int (σ 55 0), .long hh].set 30 (.int v))) = wdM cI cZ a hh (si σ 53 v) := rfl
theorem setMi_54 {cI cZ : ClassId} {a : Nat → Nat} {hh : Int64} {σ : St} {v : Int32} : (wdM cI cZ a hh σ).set 0 (a 0, .inr (6, [.int (σ 40 0), .ref (a 1), .int (σ 41 0), .ref (a 2), .ref (a 3), .int (σ 42 0), .int (σ 43 0), .ref (a 4), .int (σ 44 0), .ref (a 5), .ref (a 6), .int (σ 45 0), .int (σ 46 0), .int (σ 47 0), .ref (a 7), .int (σ 48 0), .ref (a 8), .ref (a 9), .int (σ 49 0), .ref (a 10), .ref (a 11), .ref (a 12), .ref (a 13), .ref (a 14), .ref (a 15), .ref (a 16), .ref (a 17), .int (σ 50 0), .int (σ 51 0), .int (σ 52 0), .int (σ 53 0), .int (σ 54 0), .int (σ 55 0), .long hh].set 31 (.int v))) = wdM cI cZ a hh (si σ 54 v) := rfl
theorem setMi_55 {cI cZ : ClassId} {a : Nat → Nat} {hh : Int64} {σ : St} {v : Int32} : (wdM cI cZ a hh σ).set 0 (a 0, .inr (6, [.int (σ 40 0), .ref (a 1), .int (σ 41 0), .ref (a 2), .ref (a 3), .int (σ 42 0), .int (σ 43 0), .ref (a 4), .int (σ 44 0), .ref (a 5), .ref (a 6), .int (σ 45 0), .int (σ 46 0), .int (σ 47 0), .ref (a 7), .int (σ 48 0), .ref (a 8), .ref (a 9), .int (σ 49 0), .ref (a 10), .ref (a 11), .ref (a 12), .ref (a 13), .ref (a 14), .ref (a 15), .ref (a 16), .ref (a 17), .int (σ 50 0), .int (σ 51 0), .int (σ 52 0), .int (σ 53 0), .int (σ 54 0), .int (σ 55 0), .long hh].set 32 (.int v))) = wdM cI cZ a hh (si σ 55 v) := rfl
theorem setMh {cI cZ : ClassId} {a : Nat → Nat} {hh : Int64} {σ : St} {v : Int64} : (wdM cI cZ a hh σ).set 0 (a 0, .inr (6, [.int (σ 40 0), .ref (a 1), .int (σ 41 0), .ref (a 2), .ref (a 3), .int (σ 42 0), .int (σ 43 0), .ref (a 4), .int (σ 44 0), .ref (a 5), .ref (a 6), .int (σ 45 0), .int (σ 46 0), .int (σ 47 0), .ref (a 7), .int (σ 48 0), .ref (a 8), .ref (a 9), .int (σ 49 0), .ref (a 10), .ref (a 11), .ref (a 12), .ref (a 13), .ref (a 14), .ref (a 15), .ref (a 16), .ref (a 17), .int (σ 50 0), .int (σ 51 0), .int (σ 52 0), .int (σ 53 0), .int (σ 54 0), .int (σ 55 0), .long hh].set 33 (.long v))) = wdM cI cZ a v σ := rfl
theorem setMa_1 {cI cZ : ClassId} {a : Nat → Nat} {hh : Int64} {σ : St} {i : Nat} {v : Int32} : (wdM cI cZ a hh σ).set 1 (a 1, .inl (cI, 50, .inl (upd (σ 1) i v))) = wdM cI cZ a hh (sa σ 1 i v) := rfl
theorem setMa_2 {cI cZ : ClassId} {a : Nat → Nat} {hh : Int64} {σ : St} {i : Nat} {v : Int32} : (wdM cI cZ a hh σ).set 2 (a 2, .inl (cI, 24, .inl (upd (σ 2) i v))) = wdM cI cZ a hh (sa σ 2 i v) := rfl
theorem setMa_3 {cI cZ : ClassId} {a : Nat → Nat} {hh : Int64} {σ : St} {i : Nat} {v : Int32} : (wdM cI cZ a hh σ).set 3 (a 3, .inl (cI, 24, .inl (upd (σ 3) i v))) = wdM cI cZ a hh (sa σ 3 i v) := rfl
theorem setMa_4 {cI cZ : ClassId} {a : Nat → Nat} {hh : Int64} {σ : St} {i : Nat} {v : Int32} : (wdM cI cZ a hh σ).set 4 (a 4, .inl (cI, 3, .inl (upd (σ 4) i v))) = wdM cI cZ a hh (sa σ 4 i v) := rfl
theorem setMa_5 {cI cZ : ClassId} {a : Nat → Nat} {hh : Int64} {σ : St} {i : Nat} {v : Int32} : (wdM cI cZ a hh σ).set 5 (a 5, .inl (cI, 24, .inl (upd (σ 5) i v))) = wdM cI cZ a hh (sa σ 5 i v) := rfl
theorem setMa_6 {cI cZ : ClassId} {a : Nat → Nat} {hh : Int64} {σ : St} {i : Nat} {v : Int32} : (wdM cI cZ a hh σ).set 6 (a 6, .inl (cI, 24, .inl (upd (σ 6) i v))) = wdM cI cZ a hh (sa σ 6 i v) := rfl
theorem setMa_7 {cI cZ : ClassId} {a : Nat → Nat} {hh : Int64} {σ : St} {i : Nat} {v : Int32} : (wdM cI cZ a hh σ).set 7 (a 7, .inl (cZ, 24, .inl (upd (σ 7) i v))) = wdM cI cZ a hh (sa σ 7 i v) := rfl
theorem setMa_8 {cI cZ : ClassId} {a : Nat → Nat} {hh : Int64} {σ : St} {i : Nat} {v : Int32} : (wdM cI cZ a hh σ).set 8 (a 8, .inl (cI, 12, .inl (upd (σ 8) i v))) = wdM cI cZ a hh (sa σ 8 i v) := rfl
theorem setMa_9 {cI cZ : ClassId} {a : Nat → Nat} {hh : Int64} {σ : St} {i : Nat} {v : Int32} : (wdM cI cZ a hh σ).set 9 (a 9, .inl (cI, 12, .inl (upd (σ 9) i v))) = wdM cI cZ a hh (sa σ 9 i v) := rfl
theorem setMa_10 {cI cZ : ClassId} {a : Nat → Nat} {hh : Int64} {σ : St} {i : Nat} {v : Int32} : (wdM cI cZ a hh σ).set 10 (a 10, .inl (cI, 16, .inl (upd (σ 10) i v))) = wdM cI cZ a hh (sa σ 10 i v) := rfl
theorem setMa_11 {cI cZ : ClassId} {a : Nat → Nat} {hh : Int64} {σ : St} {i : Nat} {v : Int32} : (wdM cI cZ a hh σ).set 11 (a 11, .inl (cI, 16, .inl (upd (σ 11) i v))) = wdM cI cZ a hh (sa σ 11 i v) := rfl
theorem setMa_12 {cI cZ : ClassId} {a : Nat → Nat} {hh : Int64} {σ : St} {i : Nat} {v : Int32} : (wdM cI cZ a hh σ).set 12 (a 12, .inl (cI, 24, .inl (upd (σ 12) i v))) = wdM cI cZ a hh (sa σ 12 i v) := rfl
theorem setMa_13 {cI cZ : ClassId} {a : Nat → Nat} {hh : Int64} {σ : St} {i : Nat} {v : Int32} : (wdM cI cZ a hh σ).set 13 (a 13, .inl (cI, 12, .inl (upd (σ 13) i v))) = wdM cI cZ a hh (sa σ 13 i v) := rfl
theorem setMa_14 {cI cZ : ClassId} {a : Nat → Nat} {hh : Int64} {σ : St} {i : Nat} {v : Int32} : (wdM cI cZ a hh σ).set 14 (a 14, .inl (cI, 16, .inl (upd (σ 14) i v))) = wdM cI cZ a hh (sa σ 14 i v) := rfl
theorem setMa_15 {cI cZ : ClassId} {a : Nat → Nat} {hh : Int64} {σ : St} {i : Nat} {v : Int32} : (wdM cI cZ a hh σ).set 15 (a 15, .inl (cI, 24, .inl (upd (σ 15) i v))) = wdM cI cZ a hh (sa σ 15 i v) := rfl
theorem setMa_16 {cI cZ : ClassId} {a : Nat → Nat} {hh : Int64} {σ : St} {i : Nat} {v : Int32} : (wdM cI cZ a hh σ).set 16 (a 16, .inl (cI, 24, .inl (upd (σ 16) i v))) = wdM cI cZ a hh (sa σ 16 i v) := rfl
theorem setMa_17 {cI cZ : ClassId} {a : Nat → Nat} {hh : Int64} {σ : St} {i : Nat} {v : Int32} : (wdM cI cZ a hh σ).set 17 (a 17, .inl (cI, 8, .inl (upd (σ 17) i v))) = wdM cI cZ a hh (sa σ 17 i v) := rfl
theorem inX0_clear_X0 : ∀ w ∈ wsX00, w ∈ wsX0_clear := fun _ h => List.mem_cons_of_mem _ (List.mem_append_right _ h)
theorem cdX0_clear : yX0_clear.cls = RX0 ∧ yX0_clear.cls ≠ "java/lang/invoke/MethodHandle" ∧ yX0_clear.cls ≠ "java/lang/invoke/VarHandle" ∧ (parseMethodDescriptor yX0_clear.desc).map (fun d => d.parameters.length) = some 0 := by decide +kernel
theorem inX0_add_X0 : ∀ w ∈ wsX00, w ∈ wsX0_add := fun _ h => List.mem_cons_of_mem _ (List.mem_append_right _ h)
theorem cdX0_add : yX0_add.cls = RX0 ∧ yX0_add.cls ≠ "java/lang/invoke/MethodHandle" ∧ yX0_add.cls ≠ "java/lang/invoke/VarHandle" ∧ (parseMethodDescriptor yX0_add.desc).map (fun d => d.parameters.length) = some 2 := by decide +kernel
theorem inX0_size_X0 : ∀ w ∈ wsX00, w ∈ wsX0_size := fun _ h => List.mem_cons_of_mem _ (List.mem_append_right _ h)
theorem cdX0_size : yX0_size.cls = RX0 ∧ yX0_size.cls ≠ "java/lang/invoke/MethodHandle" ∧ yX0_size.cls ≠ "java/lang/invoke/VarHandle" ∧ (parseMethodDescriptor yX0_size.desc).map (fun d => d.parameters.length) = some 0 := by decide +kernel
theorem inX0_has_X0 : ∀ w ∈ wsX00, w ∈ wsX0_has := fun _ h => List.mem_cons_of_mem _ (List.mem_append_right _ h)
theorem cdX0_has : yX0_has.cls = RX0 ∧ yX0_has.cls ≠ "java/lang/invoke/MethodHandle" ∧ yX0_has.cls ≠ "java/lang/invoke/VarHandle" ∧ (parseMethodDescriptor yX0_has.desc).map (fun d => d.parameters.length) = some 1 := by decide +kernel
theorem inX0_kindOf_X0 : ∀ w ∈ wsX00, w ∈ wsX0_kindOf := fun _ h => List.mem_cons_of_mem _ (List.mem_append_right _ h)
theorem cdX0_kindOf : yX0_kindOf.cls = RX0 ∧ yX0_kindOf.cls ≠ "java/lang/invoke/MethodHandle" ∧ yX0_kindOf.cls ≠ "java/lang/invoke/VarHandle" ∧ (parseMethodDescriptor yX0_kindOf.desc).map (fun d => d.parameters.length) = some 1 := by decide +kernel
theorem inX0_toldOf_X0 : ∀ w ∈ wsX00, w ∈ wsX0_toldOf := fun _ h => List.mem_cons_of_mem _ (List.mem_append_right _ h)
theorem cdX0_toldOf : yX0_toldOf.cls = RX0 ∧ yX0_toldOf.cls ≠ "java/lang/invoke/MethodHandle" ∧ yX0_toldOf.cls ≠ "java/lang/invoke/VarHandle" ∧ (parseMethodDescriptor yX0_toldOf.desc).map (fun d => d.parameters.length) = some 1 := by decide +kernel
theorem inX0_takeFrom_X0 : ∀ w ∈ wsX00, w ∈ wsX0_takeFrom := fun _ h => List.mem_cons_of_mem _ (List.mem_append_right _ h)
theorem cdX0_takeFrom : yX0_takeFrom.cls = RX0 ∧ yX0_takeFrom.cls ≠ "java/lang/invoke/MethodHandle" ∧ yX0_takeFrom.cls ≠ "java/lang/invoke/VarHandle" ∧ (parseMethodDescriptor yX0_takeFrom.desc).map (fun d => d.parameters.length) = some 1 := by decide +kernel
theorem inX0_gaps_X0 : ∀ w ∈ wsX00, w ∈ wsX0_gaps := fun _ h => List.mem_cons_of_mem _ (List.mem_append_right _ h)
theorem cdX0_gaps : yX0_gaps.cls = RX0 ∧ yX0_gaps.cls ≠ "java/lang/invoke/MethodHandle" ∧ yX0_gaps.cls ≠ "java/lang/invoke/VarHandle" ∧ (parseMethodDescriptor yX0_gaps.desc).map (fun d => d.parameters.length) = some 0 := by decide +kernel
theorem inX0_tell_X0 : ∀ w ∈ wsX00, w ∈ wsX0_tell := fun _ h => List.mem_cons_of_mem _ (List.mem_append_right _ h)
theorem cdX0_tell : yX0_tell.cls = RX0 ∧ yX0_tell.cls ≠ "java/lang/invoke/MethodHandle" ∧ yX0_tell.cls ≠ "java/lang/invoke/VarHandle" ∧ (parseMethodDescriptor yX0_tell.desc).map (fun d => d.parameters.length) = some 2 := by decide +kernel
theorem inX1_length_X1 : ∀ w ∈ wsX10, w ∈ wsX1_length := fun _ h => List.mem_cons_of_mem _ (List.mem_append_right _ h)
theorem cdX1_length : yX1_length.cls = RX1 ∧ yX1_length.cls ≠ "java/lang/invoke/MethodHandle" ∧ yX1_length.cls ≠ "java/lang/invoke/VarHandle" ∧ (parseMethodDescriptor yX1_length.desc).map (fun d => d.parameters.length) = some 0 := by decide +kernel
theorem inX1_append_X1 : ∀ w ∈ wsX10, w ∈ wsX1_append := fun _ h => List.mem_cons_of_mem _ (List.mem_append_right _ h)
theorem cdX1_append : yX1_append.cls = RX1 ∧ yX1_append.cls ≠ "java/lang/invoke/MethodHandle" ∧ yX1_append.cls ≠ "java/lang/invoke/VarHandle" ∧ (parseMethodDescriptor yX1_append.desc).map (fun d => d.parameters.length) = some 1 := by decide +kernel
theorem inX1_clear_X1 : ∀ w ∈ wsX10, w ∈ wsX1_clear := fun _ h => List.mem_cons_of_mem _ (List.mem_append_right _ h)
theorem cdX1_clear : yX1_clear.cls = RX1 ∧ yX1_clear.cls ≠ "java/lang/invoke/MethodHandle" ∧ yX1_clear.cls ≠ "java/lang/invoke/VarHandle" ∧ (parseMethodDescriptor yX1_clear.desc).map (fun d => d.parameters.length) = some 0 := by decide +kernel
theorem inX1_letterAt_X1 : ∀ w ∈ wsX10, w ∈ wsX1_letterAt := fun _ h => List.mem_cons_of_mem _ (List.mem_append_right _ h)
theorem cdX1_letterAt : yX1_letterAt.cls = RX1 ∧ yX1_letterAt.cls ≠ "java/lang/invoke/MethodHandle" ∧ yX1_letterAt.cls ≠ "java/lang/invoke/VarHandle" ∧ (parseMethodDescriptor yX1_letterAt.desc).map (fun d => d.parameters.length) = some 1 := by decide +kernel
theorem inX4_clear_X4 : ∀ w ∈ wsX40, w ∈ wsX4_clear := fun _ h => List.mem_cons_of_mem _ (List.mem_append_right _ h)
theorem cdX4_clear : yX4_clear.cls = RX4 ∧ yX4_clear.cls ≠ "java/lang/invoke/MethodHandle" ∧ yX4_clear.cls ≠ "java/lang/invoke/VarHandle" ∧ (parseMethodDescriptor yX4_clear.desc).map (fun d => d.parameters.length) = some 0 := by decide +kernel
theorem inX2_clear_X2 : ∀ w ∈ wsX20, w ∈ wsX2_clear := fun _ h => List.mem_cons_of_mem _ (List.mem_append_left _ (List.mem_append_right _ h))
theorem inX2_clear_X4 : ∀ w ∈ wsX40, w ∈ wsX2_clear := fun _ h => List.mem_cons_of_mem _ (List.mem_append_right _ h)
theorem cdX2_clear : yX2_clear.cls = RX2 ∧ yX2_clear.cls ≠ "java/lang/invoke/MethodHandle" ∧ yX2_clear.cls ≠ "java/lang/invoke/VarHandle" ∧ (parseMethodDescriptor yX2_clear.desc).map (fun d => d.parameters.length) = some 0 := by decide +kernel
theorem inX2_isLong_X2 : ∀ w ∈ wsX20, w ∈ wsX2_isLong := fun _ h => List.mem_cons_of_mem _ (List.mem_append_right _ h)
theorem cdX2_isLong : yX2_isLong.cls = RX2 ∧ yX2_isLong.cls ≠ "java/lang/invoke/MethodHandle" ∧ yX2_isLong.cls ≠ "java/lang/invoke/VarHandle" ∧ (parseMethodDescriptor yX2_isLong.desc).map (fun d => d.parameters.length) = some 1 := by decide +kernel
theorem cdX5_fillTo : yX5_fillTo.cls = RX5 ∧ yX5_fillTo.cls ≠ "java/lang/invoke/MethodHandle" ∧ yX5_fillTo.cls ≠ "java/lang/invoke/VarHandle" ∧ (parseMethodDescriptor yX5_fillTo.desc).map (fun d => d.parameters.length) = some 2 := by decide +kernel
theorem inX2_sizeAt_X2 : ∀ w ∈ wsX20, w ∈ wsX2_sizeAt := fun _ h => List.mem_cons_of_mem _ (List.mem_append_left _ (List.mem_append_right _ h))
theorem inX2_sizeAt_X0 : ∀ w ∈ wsX00, w ∈ wsX2_sizeAt := fun _ h => List.mem_cons_of_mem _ (List.mem_append_right _ h)
theorem cdX2_sizeAt : yX2_sizeAt.cls = RX2 ∧ yX2_sizeAt.cls ≠ "java/lang/invoke/MethodHandle" ∧ yX2_sizeAt.cls ≠ "java/lang/invoke/VarHandle" ∧ (parseMethodDescriptor yX2_sizeAt.desc).map (fun d => d.parameters.length) = some 2 := by decide +kernel
theorem inX2_noteLabel_X2 : ∀ w ∈ wsX20, w ∈ wsX2_noteLabel := fun _ h => List.mem_cons_of_mem _ (List.mem_append_right _ h)
theorem cdX2_noteLabel : yX2_noteLabel.cls = RX2 ∧ yX2_noteLabel.cls ≠ "java/lang/invoke/MethodHandle" ∧ yX2_noteLabel.cls ≠ "java/lang/invoke/VarHandle" ∧ (parseMethodDescriptor yX2_noteLabel.desc).map (fun d => d.parameters.length) = some 2 := by decide +kernel
theorem cdX4_isItem : yX4_isItem.cls = RX4 ∧ yX4_isItem.cls ≠ "java/lang/invoke/MethodHandle" ∧ yX4_isItem.cls ≠ "java/lang/invoke/VarHandle" ∧ (parseMethodDescriptor yX4_isItem.desc).map (fun d => d.parameters.length) = some 1 := by decide +kernel
theorem inX4_lay_X4 : ∀ w ∈ wsX40, w ∈ wsX4_lay := fun _ h => List.mem_cons_of_mem _ (List.mem_append_right _ h)
theorem cdX4_lay : yX4_lay.cls = RX4 ∧ yX4_lay.cls ≠ "java/lang/invoke/MethodHandle" ∧ yX4_lay.cls ≠ "java/lang/invoke/VarHandle" ∧ (parseMethodDescriptor yX4_lay.desc).map (fun d => d.parameters.length) = some 2 := by decide +kernel
theorem inX4_isIn_X4 : ∀ w ∈ wsX40, w ∈ wsX4_isIn := fun _ h => List.mem_cons_of_mem _ (List.mem_append_right _ h)
theorem cdX4_isIn : yX4_isIn.cls = RX4 ∧ yX4_isIn.cls ≠ "java/lang/invoke/MethodHandle" ∧ yX4_isIn.cls ≠ "java/lang/invoke/VarHandle" ∧ (parseMethodDescriptor yX4_isIn.desc).map (fun d => d.parameters.length) = some 1 := by decide +kernel
theorem inX2_layGap_X2 : ∀ w ∈ wsX20, w ∈ wsX2_layGap := fun _ h => List.mem_cons_of_mem _ (List.mem_append_left _ (List.mem_append_right _ h))
theorem inX2_layGap_X4 : ∀ w ∈ wsX40, w ∈ wsX2_layGap := fun _ h => List.mem_cons_of_mem _ (List.mem_append_right _ h)
theorem cdX2_layGap : yX2_layGap.cls = RX2 ∧ yX2_layGap.cls ≠ "java/lang/invoke/MethodHandle" ∧ yX2_layGap.cls ≠ "java/lang/invoke/VarHandle" ∧ (parseMethodDescriptor yX2_layGap.desc).map (fun d => d.parameters.length) = some 2 := by decide +kernel
theorem inX2_lay_X2 : ∀ w ∈ wsX20, w ∈ wsX2_lay := fun _ h => List.mem_cons_of_mem _ (List.mem_append_left _ (List.mem_append_left _ (List.mem_append_right _ h)))
theorem inX2_lay_X0 : ∀ w ∈ wsX00, w ∈ wsX2_lay := fun _ h => List.mem_cons_of_mem _ (List.mem_append_left _ (List.mem_append_right _ h))
theorem inX2_lay_X4 : ∀ w ∈ wsX40, w ∈ wsX2_lay := fun _ h => List.mem_cons_of_mem _ (List.mem_append_right _ h)
theorem cdX2_lay : yX2_lay.cls = RX2 ∧ yX2_lay.cls ≠ "java/lang/invoke/MethodHandle" ∧ yX2_lay.cls ≠ "java/lang/invoke/VarHandle" ∧ (parseMethodDescriptor yX2_lay.desc).map (fun d => d.parameters.length) = some 0 := by decide +kernel
theorem inX2_addressOf_X2 : ∀ w ∈ wsX20, w ∈ wsX2_addressOf := fun _ h => List.mem_cons_of_mem _ (List.mem_append_right _ h)
theorem cdX2_addressOf : yX2_addressOf.cls = RX2 ∧ yX2_addressOf.cls ≠ "java/lang/invoke/MethodHandle" ∧ yX2_addressOf.cls ≠ "java/lang/invoke/VarHandle" ∧ (parseMethodDescriptor yX2_addressOf.desc).map (fun d => d.parameters.length) = some 1 := by decide +kernel
theorem inX4_size_X4 : ∀ w ∈ wsX40, w ∈ wsX4_size := fun _ h => List.mem_cons_of_mem _ (List.mem_append_right _ h)
theorem cdX4_size : yX4_size.cls = RX4 ∧ yX4_size.cls ≠ "java/lang/invoke/MethodHandle" ∧ yX4_size.cls ≠ "java/lang/invoke/VarHandle" ∧ (parseMethodDescriptor yX4_size.desc).map (fun d => d.parameters.length) = some 0 := by decide +kernel
theorem inX4_has_X4 : ∀ w ∈ wsX40, w ∈ wsX4_has := fun _ h => List.mem_cons_of_mem _ (List.mem_append_right _ h)
theorem cdX4_has : yX4_has.cls = RX4 ∧ yX4_has.cls ≠ "java/lang/invoke/MethodHandle" ∧ yX4_has.cls ≠ "java/lang/invoke/VarHandle" ∧ (parseMethodDescriptor yX4_has.desc).map (fun d => d.parameters.length) = some 1 := by decide +kernel
theorem inX4_addressOf_X4 : ∀ w ∈ wsX40, w ∈ wsX4_addressOf := fun _ h => List.mem_cons_of_mem _ (List.mem_append_right _ h)
theorem cdX4_addressOf : yX4_addressOf.cls = RX4 ∧ yX4_addressOf.cls ≠ "java/lang/invoke/MethodHandle" ∧ yX4_addressOf.cls ≠ "java/lang/invoke/VarHandle" ∧ (parseMethodDescriptor yX4_addressOf.desc).map (fun d => d.parameters.length) = some 1 := by decide +kernel
theorem inX4_nameOf_X4 : ∀ w ∈ wsX40, w ∈ wsX4_nameOf := fun _ h => List.mem_cons_of_mem _ (List.mem_append_right _ h)
theorem cdX4_nameOf : yX4_nameOf.cls = RX4 ∧ yX4_nameOf.cls ≠ "java/lang/invoke/MethodHandle" ∧ yX4_nameOf.cls ≠ "java/lang/invoke/VarHandle" ∧ (parseMethodDescriptor yX4_nameOf.desc).map (fun d => d.parameters.length) = some 1 := by decide +kernel
theorem inX2_isInLoadReach_X2 : ∀ w ∈ wsX20, w ∈ wsX2_isInLoadReach := fun _ h => List.mem_cons_of_mem _ (List.mem_append_right _ h)
theorem cdX2_isInLoadReach : yX2_isInLoadReach.cls = RX2 ∧ yX2_isInLoadReach.cls ≠ "java/lang/invoke/MethodHandle" ∧ yX2_isInLoadReach.cls ≠ "java/lang/invoke/VarHandle" ∧ (parseMethodDescriptor yX2_isInLoadReach.desc).map (fun d => d.parameters.length) = some 2 := by decide +kernel
theorem inX2_constantFor_X2 : ∀ w ∈ wsX20, w ∈ wsX2_constantFor := fun _ h => List.mem_cons_of_mem _ (List.mem_append_left _ (List.mem_append_right _ h))
theorem inX2_constantFor_X4 : ∀ w ∈ wsX40, w ∈ wsX2_constantFor := fun _ h => List.mem_cons_of_mem _ (List.mem_append_right _ h)
theorem cdX2_constantFor : yX2_constantFor.cls = RX2 ∧ yX2_constantFor.cls ≠ "java/lang/invoke/MethodHandle" ∧ yX2_constantFor.cls ≠ "java/lang/invoke/VarHandle" ∧ (parseMethodDescriptor yX2_constantFor.desc).map (fun d => d.parameters.length) = some 2 := by decide +kernel
theorem inX2_labelAddress_X2 : ∀ w ∈ wsX20, w ∈ wsX2_labelAddress := fun _ h => List.mem_cons_of_mem _ (List.mem_append_right _ h)
theorem cdX2_labelAddress : yX2_labelAddress.cls = RX2 ∧ yX2_labelAddress.cls ≠ "java/lang/invoke/MethodHandle" ∧ yX2_labelAddress.cls ≠ "java/lang/invoke/VarHandle" ∧ (parseMethodDescriptor yX2_labelAddress.desc).map (fun d => d.parameters.length) = some 1 := by decide +kernel
theorem cdX5_far : yX5_far.cls = RX5 ∧ yX5_far.cls ≠ "java/lang/invoke/MethodHandle" ∧ yX5_far.cls ≠ "java/lang/invoke/VarHandle" ∧ (parseMethodDescriptor yX5_far.desc).map (fun d => d.parameters.length) = some 2 := by decide +kernel
theorem inX2_goesStraight_X2 : ∀ w ∈ wsX20, w ∈ wsX2_goesStraight := fun _ h => List.mem_cons_of_mem _ (List.mem_append_right _ h)
theorem cdX2_goesStraight : yX2_goesStraight.cls = RX2 ∧ yX2_goesStraight.cls ≠ "java/lang/invoke/MethodHandle" ∧ yX2_goesStraight.cls ≠ "java/lang/invoke/VarHandle" ∧ (parseMethodDescriptor yX2_goesStraight.desc).map (fun d => d.parameters.length) = some 2 := by decide +kernel
theorem inX2_islandFor_X2 : ∀ w ∈ wsX20, w ∈ wsX2_islandFor := fun _ h => List.mem_cons_of_mem _ (List.mem_append_left _ (List.mem_append_right _ h))
theorem inX2_islandFor_X4 : ∀ w ∈ wsX40, w ∈ wsX2_islandFor := fun _ h => List.mem_cons_of_mem _ (List.mem_append_right _ h)
theorem cdX2_islandFor : yX2_islandFor.cls = RX2 ∧ yX2_islandFor.cls ≠ "java/lang/invoke/MethodHandle" ∧ yX2_islandFor.cls ≠ "java/lang/invoke/VarHandle" ∧ (parseMethodDescriptor yX2_islandFor.desc).map (fun d => d.parameters.length) = some 2 := by decide +kernel
theorem inX2_longAim_X2 : ∀ w ∈ wsX20, w ∈ wsX2_longAim := fun _ h => List.mem_cons_of_mem _ (List.mem_append_left _ (List.mem_append_right _ h))
theorem inX2_longAim_X4 : ∀ w ∈ wsX40, w ∈ wsX2_longAim := fun _ h => List.mem_cons_of_mem _ (List.mem_append_right _ h)
theorem cdX2_longAim : yX2_longAim.cls = RX2 ∧ yX2_longAim.cls ≠ "java/lang/invoke/MethodHandle" ∧ yX2_longAim.cls ≠ "java/lang/invoke/VarHandle" ∧ (parseMethodDescriptor yX2_longAim.desc).map (fun d => d.parameters.length) = some 2 := by decide +kernel
theorem inX2_shortAim_X2 : ∀ w ∈ wsX20, w ∈ wsX2_shortAim := fun _ h => List.mem_cons_of_mem _ (List.mem_append_right _ h)
theorem cdX2_shortAim : yX2_shortAim.cls = RX2 ∧ yX2_shortAim.cls ≠ "java/lang/invoke/MethodHandle" ∧ yX2_shortAim.cls ≠ "java/lang/invoke/VarHandle" ∧ (parseMethodDescriptor yX2_shortAim.desc).map (fun d => d.parameters.length) = some 2 := by decide +kernel
theorem inX2_aimItems_X2 : ∀ w ∈ wsX20, w ∈ wsX2_aimItems := fun _ h => List.mem_cons_of_mem _ (List.mem_append_left _ (List.mem_append_left _ (List.mem_append_right _ h)))
theorem inX2_aimItems_X0 : ∀ w ∈ wsX00, w ∈ wsX2_aimItems := fun _ h => List.mem_cons_of_mem _ (List.mem_append_left _ (List.mem_append_right _ h))
theorem inX2_aimItems_X4 : ∀ w ∈ wsX40, w ∈ wsX2_aimItems := fun _ h => List.mem_cons_of_mem _ (List.mem_append_right _ h)
theorem cdX2_aimItems : yX2_aimItems.cls = RX2 ∧ yX2_aimItems.cls ≠ "java/lang/invoke/MethodHandle" ∧ yX2_aimItems.cls ≠ "java/lang/invoke/VarHandle" ∧ (parseMethodDescriptor yX2_aimItems.desc).map (fun d => d.parameters.length) = some 0 := by decide +kernel
theorem inX2_aimIslands_X2 : ∀ w ∈ wsX20, w ∈ wsX2_aimIslands := fun _ h => List.mem_cons_of_mem _ (List.mem_append_left _ (List.mem_append_right _ h))
theorem inX2_aimIslands_X4 : ∀ w ∈ wsX40, w ∈ wsX2_aimIslands := fun _ h => List.mem_cons_of_mem _ (List.mem_append_right _ h)
theorem cdX2_aimIslands : yX2_aimIslands.cls = RX2 ∧ yX2_aimIslands.cls ≠ "java/lang/invoke/MethodHandle" ∧ yX2_aimIslands.cls ≠ "java/lang/invoke/VarHandle" ∧ (parseMethodDescriptor yX2_aimIslands.desc).map (fun d => d.parameters.length) = some 0 := by decide +kernel
theorem inX2_aimOf_X2 : ∀ w ∈ wsX20, w ∈ wsX2_aimOf := fun _ h => List.mem_cons_of_mem _ (List.mem_append_right _ h)
theorem cdX2_aimOf : yX2_aimOf.cls = RX2 ∧ yX2_aimOf.cls ≠ "java/lang/invoke/MethodHandle" ∧ yX2_aimOf.cls ≠ "java/lang/invoke/VarHandle" ∧ (parseMethodDescriptor yX2_aimOf.desc).map (fun d => d.parameters.length) = some 1 := by decide +kernel
theorem inX2_firstAstray_X2 : ∀ w ∈ wsX20, w ∈ wsX2_firstAstray := fun _ h => List.mem_cons_of_mem _ (List.mem_append_left _ (List.mem_append_right _ h))
theorem inX2_firstAstray_X0 : ∀ w ∈ wsX00, w ∈ wsX2_firstAstray := fun _ h => List.mem_cons_of_mem _ (List.mem_append_right _ h)
theorem cdX2_firstAstray : yX2_firstAstray.cls = RX2 ∧ yX2_firstAstray.cls ≠ "java/lang/invoke/MethodHandle" ∧ yX2_firstAstray.cls ≠ "java/lang/invoke/VarHandle" ∧ (parseMethodDescriptor yX2_firstAstray.desc).map (fun d => d.parameters.length) = some 2 := by decide +kernel
theorem inX2_lengthens_X2 : ∀ w ∈ wsX20, w ∈ wsX2_lengthens := fun _ h => List.mem_cons_of_mem _ (List.mem_append_right _ h)
theorem cdX2_lengthens : yX2_lengthens.cls = RX2 ∧ yX2_lengthens.cls ≠ "java/lang/invoke/MethodHandle" ∧ yX2_lengthens.cls ≠ "java/lang/invoke/VarHandle" ∧ (parseMethodDescriptor yX2_lengthens.desc).map (fun d => d.parameters.length) = some 1 := by decide +kernel
theorem inX4_endOf_X4 : ∀ w ∈ wsX40, w ∈ wsX4_endOf := fun _ h => List.mem_cons_of_mem _ (List.mem_append_right _ h)
theorem cdX4_endOf : yX4_endOf.cls = RX4 ∧ yX4_endOf.cls ≠ "java/lang/invoke/MethodHandle" ∧ yX4_endOf.cls ≠ "java/lang/invoke/VarHandle" ∧ (parseMethodDescriptor yX4_endOf.desc).map (fun d => d.parameters.length) = some 1 := by decide +kernel
theorem inX2_nextConstantIn_X2 : ∀ w ∈ wsX20, w ∈ wsX2_nextConstantIn := fun _ h => List.mem_cons_of_mem _ (List.mem_append_left _ (List.mem_append_right _ h))
theorem inX2_nextConstantIn_X4 : ∀ w ∈ wsX40, w ∈ wsX2_nextConstantIn := fun _ h => List.mem_cons_of_mem _ (List.mem_append_right _ h)
theorem cdX2_nextConstantIn : yX2_nextConstantIn.cls = RX2 ∧ yX2_nextConstantIn.cls ≠ "java/lang/invoke/MethodHandle" ∧ yX2_nextConstantIn.cls ≠ "java/lang/invoke/VarHandle" ∧ (parseMethodDescriptor yX2_nextConstantIn.desc).map (fun d => d.parameters.length) = some 1 := by decide +kernel
theorem inX4_add_X4 : ∀ w ∈ wsX40, w ∈ wsX4_add := fun _ h => List.mem_cons_of_mem _ (List.mem_append_right _ h)
theorem cdX4_add : yX4_add.cls = RX4 ∧ yX4_add.cls ≠ "java/lang/invoke/MethodHandle" ∧ yX4_add.cls ≠ "java/lang/invoke/VarHandle" ∧ (parseMethodDescriptor yX4_add.desc).map (fun d => d.parameters.length) = some 2 := by decide +kernel
theorem inX2_bringsConstant_X2 : ∀ w ∈ wsX20, w ∈ wsX2_bringsConstant := fun _ h => List.mem_cons_of_mem _ (List.mem_append_left _ (List.mem_append_left _ (List.mem_append_right _ h)))
theorem inX2_bringsConstant_X0 : ∀ w ∈ wsX00, w ∈ wsX2_bringsConstant := fun _ h => List.mem_cons_of_mem _ (List.mem_append_left _ (List.mem_append_right _ h))
theorem inX2_bringsConstant_X4 : ∀ w ∈ wsX40, w ∈ wsX2_bringsConstant := fun _ h => List.mem_cons_of_mem _ (List.mem_append_right _ h)
theorem cdX2_bringsConstant : yX2_bringsConstant.cls = RX2 ∧ yX2_bringsConstant.cls ≠ "java/lang/invoke/MethodHandle" ∧ yX2_bringsConstant.cls ≠ "java/lang/invoke/VarHandle" ∧ (parseMethodDescriptor yX2_bringsConstant.desc).map (fun d => d.parameters.length) = some 1 := by decide +kernel
theorem inX2_fails_X2 : ∀ w ∈ wsX20, w ∈ wsX2_fails := fun _ h => List.mem_cons_of_mem _ (List.mem_append_right _ h)
theorem cdX2_fails : yX2_fails.cls = RX2 ∧ yX2_fails.cls ≠ "java/lang/invoke/MethodHandle" ∧ yX2_fails.cls ≠ "java/lang/invoke/VarHandle" ∧ (parseMethodDescriptor yX2_fails.desc).map (fun d => d.parameters.length) = some 2 := by decide +kernel
theorem inX2_bringsIsland_X2 : ∀ w ∈ wsX20, w ∈ wsX2_bringsIsland := fun _ h => List.mem_cons_of_mem _ (List.mem_append_left _ (List.mem_append_left _ (List.mem_append_right _ h)))
theorem inX2_bringsIsland_X0 : ∀ w ∈ wsX00, w ∈ wsX2_bringsIsland := fun _ h => List.mem_cons_of_mem _ (List.mem_append_left _ (List.mem_append_right _ h))
theorem inX2_bringsIsland_X4 : ∀ w ∈ wsX40, w ∈ wsX2_bringsIsland := fun _ h => List.mem_cons_of_mem _ (List.mem_append_right _ h)
theorem cdX2_bringsIsland : yX2_bringsIsland.cls = RX2 ∧ yX2_bringsIsland.cls ≠ "java/lang/invoke/MethodHandle" ∧ yX2_bringsIsland.cls ≠ "java/lang/invoke/VarHandle" ∧ (parseMethodDescriptor yX2_bringsIsland.desc).map (fun d => d.parameters.length) = some 2 := by decide +kernel
theorem inX2_islandAimOf_X2 : ∀ w ∈ wsX20, w ∈ wsX2_islandAimOf := fun _ h => List.mem_cons_of_mem _ (List.mem_append_right _ h)
theorem cdX2_islandAimOf : yX2_islandAimOf.cls = RX2 ∧ yX2_islandAimOf.cls ≠ "java/lang/invoke/MethodHandle" ∧ yX2_islandAimOf.cls ≠ "java/lang/invoke/VarHandle" ∧ (parseMethodDescriptor yX2_islandAimOf.desc).map (fun d => d.parameters.length) = some 1 := by decide +kernel
theorem inX2_firstIslandAstray_X2 : ∀ w ∈ wsX20, w ∈ wsX2_firstIslandAstray := fun _ h => List.mem_cons_of_mem _ (List.mem_append_left _ (List.mem_append_right _ h))
theorem inX2_firstIslandAstray_X4 : ∀ w ∈ wsX40, w ∈ wsX2_firstIslandAstray := fun _ h => List.mem_cons_of_mem _ (List.mem_append_right _ h)
theorem cdX2_firstIslandAstray : yX2_firstIslandAstray.cls = RX2 ∧ yX2_firstIslandAstray.cls ≠ "java/lang/invoke/MethodHandle" ∧ yX2_firstIslandAstray.cls ≠ "java/lang/invoke/VarHandle" ∧ (parseMethodDescriptor yX2_firstIslandAstray.desc).map (fun d => d.parameters.length) = some 0 := by decide +kernel
theorem inX2_mendsOne_X2 : ∀ w ∈ wsX20, w ∈ wsX2_mendsOne := fun _ h => List.mem_cons_of_mem _ (List.mem_append_left _ (List.mem_append_left _ (List.mem_append_right _ h)))
theorem inX2_mendsOne_X0 : ∀ w ∈ wsX00, w ∈ wsX2_mendsOne := fun _ h => List.mem_cons_of_mem _ (List.mem_append_left _ (List.mem_append_right _ h))
theorem inX2_mendsOne_X4 : ∀ w ∈ wsX40, w ∈ wsX2_mendsOne := fun _ h => List.mem_cons_of_mem _ (List.mem_append_right _ h)
theorem cdX2_mendsOne : yX2_mendsOne.cls = RX2 ∧ yX2_mendsOne.cls ≠ "java/lang/invoke/MethodHandle" ∧ yX2_mendsOne.cls ≠ "java/lang/invoke/VarHandle" ∧ (parseMethodDescriptor yX2_mendsOne.desc).map (fun d => d.parameters.length) = some 0 := by decide +kernel
theorem inX2_placeAll_X2 : ∀ w ∈ wsX20, w ∈ wsX2_placeAll := fun _ h => List.mem_cons_of_mem _ (List.mem_append_left _ (List.mem_append_left _ (List.mem_append_right _ h)))
theorem inX2_placeAll_X4 : ∀ w ∈ wsX40, w ∈ wsX2_placeAll := fun _ h => List.mem_cons_of_mem _ (List.mem_append_left _ (List.mem_append_right _ h))
theorem inX2_placeAll_X0 : ∀ w ∈ wsX00, w ∈ wsX2_placeAll := fun _ h => List.mem_cons_of_mem _ (List.mem_append_right _ h)
theorem cdX2_placeAll : yX2_placeAll.cls = RX2 ∧ yX2_placeAll.cls ≠ "java/lang/invoke/MethodHandle" ∧ yX2_placeAll.cls ≠ "java/lang/invoke/VarHandle" ∧ (parseMethodDescriptor yX2_placeAll.desc).map (fun d => d.parameters.length) = some 0 := by decide +kernel
theorem inX2_sizeOf_X2 : ∀ w ∈ wsX20, w ∈ wsX2_sizeOf := fun _ h => List.mem_cons_of_mem _ (List.mem_append_right _ h)
theorem cdX2_sizeOf : yX2_sizeOf.cls = RX2 ∧ yX2_sizeOf.cls ≠ "java/lang/invoke/MethodHandle" ∧ yX2_sizeOf.cls ≠ "java/lang/invoke/VarHandle" ∧ (parseMethodDescriptor yX2_sizeOf.desc).map (fun d => d.parameters.length) = some 1 := by decide +kernel
theorem inX2_loadsOf_X2 : ∀ w ∈ wsX20, w ∈ wsX2_loadsOf := fun _ h => List.mem_cons_of_mem _ (List.mem_append_left _ (List.mem_append_left _ (List.mem_append_right _ h)))
theorem inX2_loadsOf_X4 : ∀ w ∈ wsX40, w ∈ wsX2_loadsOf := fun _ h => List.mem_cons_of_mem _ (List.mem_append_left _ (List.mem_append_right _ h))
theorem inX2_loadsOf_X0 : ∀ w ∈ wsX00, w ∈ wsX2_loadsOf := fun _ h => List.mem_cons_of_mem _ (List.mem_append_right _ h)
theorem cdX2_loadsOf : yX2_loadsOf.cls = RX2 ∧ yX2_loadsOf.cls ≠ "java/lang/invoke/MethodHandle" ∧ yX2_loadsOf.cls ≠ "java/lang/invoke/VarHandle" ∧ (parseMethodDescriptor yX2_loadsOf.desc).map (fun d => d.parameters.length) = some 1 := by decide +kernel
theorem inX2_hopsFrom_X2 : ∀ w ∈ wsX20, w ∈ wsX2_hopsFrom := fun _ h => List.mem_cons_of_mem _ (List.mem_append_left _ (List.mem_append_left _ (List.mem_append_right _ h)))
theorem inX2_hopsFrom_X0 : ∀ w ∈ wsX00, w ∈ wsX2_hopsFrom := fun _ h => List.mem_cons_of_mem _ (List.mem_append_left _ (List.mem_append_right _ h))
theorem inX2_hopsFrom_X4 : ∀ w ∈ wsX40, w ∈ wsX2_hopsFrom := fun _ h => List.mem_cons_of_mem _ (List.mem_append_right _ h)
theorem cdX2_hopsFrom : yX2_hopsFrom.cls = RX2 ∧ yX2_hopsFrom.cls ≠ "java/lang/invoke/MethodHandle" ∧ yX2_hopsFrom.cls ≠ "java/lang/invoke/VarHandle" ∧ (parseMethodDescriptor yX2_hopsFrom.desc).map (fun d => d.parameters.length) = some 1 := by decide +kernel
theorem cdX3_kindBegunBy : yX3_kindBegunBy.cls = RX3 ∧ yX3_kindBegunBy.cls ≠ "java/lang/invoke/MethodHandle" ∧ yX3_kindBegunBy.cls ≠ "java/lang/invoke/VarHandle" ∧ (parseMethodDescriptor yX3_kindBegunBy.desc).map (fun d => d.parameters.length) = some 1 := by decide +kernel
theorem inX3_begins_X3 : ∀ w ∈ wsX30, w ∈ wsX3_begins := fun _ h => List.mem_cons_of_mem _ (List.mem_append_left _ (List.mem_append_right _ h))
theorem inX3_begins_X0 : ∀ w ∈ wsX00, w ∈ wsX3_begins := fun _ h => List.mem_cons_of_mem _ (List.mem_append_right _ h)
theorem cdX3_begins : yX3_begins.cls = RX3 ∧ yX3_begins.cls ≠ "java/lang/invoke/MethodHandle" ∧ yX3_begins.cls ≠ "java/lang/invoke/VarHandle" ∧ (parseMethodDescriptor yX3_begins.desc).map (fun d => d.parameters.length) = some 1 := by decide +kernel
theorem inX3_endsWithLabel_X3 : ∀ w ∈ wsX30, w ∈ wsX3_endsWithLabel := fun _ h => List.mem_cons_of_mem _ (List.mem_append_left _ (List.mem_append_right _ h))
theorem inX3_endsWithLabel_X0 : ∀ w ∈ wsX00, w ∈ wsX3_endsWithLabel := fun _ h => List.mem_cons_of_mem _ (List.mem_append_right _ h)
theorem cdX3_endsWithLabel : yX3_endsWithLabel.cls = RX3 ∧ yX3_endsWithLabel.cls ≠ "java/lang/invoke/MethodHandle" ∧ yX3_endsWithLabel.cls ≠ "java/lang/invoke/VarHandle" ∧ (parseMethodDescriptor yX3_endsWithLabel.desc).map (fun d => d.parameters.length) = some 2 := by decide +kernel
theorem inX3_ends_X3 : ∀ w ∈ wsX30, w ∈ wsX3_ends := fun _ h => List.mem_cons_of_mem _ (List.mem_append_left _ (List.mem_append_right _ h))
theorem inX3_ends_X0 : ∀ w ∈ wsX00, w ∈ wsX3_ends := fun _ h => List.mem_cons_of_mem _ (List.mem_append_right _ h)
theorem cdX3_ends : yX3_ends.cls = RX3 ∧ yX3_ends.cls ≠ "java/lang/invoke/MethodHandle" ∧ yX3_ends.cls ≠ "java/lang/invoke/VarHandle" ∧ (parseMethodDescriptor yX3_ends.desc).map (fun d => d.parameters.length) = some 1 := by decide +kernel
theorem inX3_read_X3 : ∀ w ∈ wsX30, w ∈ wsX3_read := fun _ h => List.mem_cons_of_mem _ (List.mem_append_left _ (List.mem_append_left _ (List.mem_append_right _ h)))
theorem inX3_read_X0 : ∀ w ∈ wsX00, w ∈ wsX3_read := fun _ h => List.mem_cons_of_mem _ (List.mem_append_left _ (List.mem_append_right _ h))
theorem inX3_read_X1 : ∀ w ∈ wsX10, w ∈ wsX3_read := fun _ h => List.mem_cons_of_mem _ (List.mem_append_right _ h)
theorem cdX3_read : yX3_read.cls = RX3 ∧ yX3_read.cls ≠ "java/lang/invoke/MethodHandle" ∧ yX3_read.cls ≠ "java/lang/invoke/VarHandle" ∧ (parseMethodDescriptor yX3_read.desc).map (fun d => d.parameters.length) = some 1 := by decide +kernel
theorem inX3_isWhole_X3 : ∀ w ∈ wsX30, w ∈ wsX3_isWhole := fun _ h => List.mem_cons_of_mem _ (List.mem_append_left _ (List.mem_append_right _ h))
theorem inX3_isWhole_X0 : ∀ w ∈ wsX00, w ∈ wsX3_isWhole := fun _ h => List.mem_cons_of_mem _ (List.mem_append_right _ h)
theorem cdX3_isWhole : yX3_isWhole.cls = RX3 ∧ yX3_isWhole.cls ≠ "java/lang/invoke/MethodHandle" ∧ yX3_isWhole.cls ≠ "java/lang/invoke/VarHandle" ∧ (parseMethodDescriptor yX3_isWhole.desc).map (fun d => d.parameters.length) = some 0 := by decide +kernel
theorem inX4_returnOf_X4 : ∀ w ∈ wsX40, w ∈ wsX4_returnOf := fun _ h => List.mem_cons_of_mem _ (List.mem_append_right _ h)
theorem cdX4_returnOf : yX4_returnOf.cls = RX4 ∧ yX4_returnOf.cls ≠ "java/lang/invoke/MethodHandle" ∧ yX4_returnOf.cls ≠ "java/lang/invoke/VarHandle" ∧ (parseMethodDescriptor yX4_returnOf.desc).map (fun d => d.parameters.length) = some 1 := by decide +kernel
theorem inX5_letter_X5 : ∀ w ∈ wsX50, w ∈ wsX5_letter := fun _ h => List.mem_cons_of_mem _ (List.mem_append_left _ (List.mem_append_right _ h))
theorem inX5_letter_X1 : ∀ w ∈ wsX10, w ∈ wsX5_letter := fun _ h => List.mem_cons_of_mem _ (List.mem_append_right _ h)
theorem cdX5_letter : yX5_letter.cls = RX5 ∧ yX5_letter.cls ≠ "java/lang/invoke/MethodHandle" ∧ yX5_letter.cls ≠ "java/lang/invoke/VarHandle" ∧ (parseMethodDescriptor yX5_letter.desc).map (fun d => d.parameters.length) = some 1 := by decide +kernel
theorem inX5_blank_X5 : ∀ w ∈ wsX50, w ∈ wsX5_blank := fun _ h => List.mem_cons_of_mem _ (List.mem_append_left _ (List.mem_append_right _ h))
theorem inX5_blank_X1 : ∀ w ∈ wsX10, w ∈ wsX5_blank := fun _ h => List.mem_cons_of_mem _ (List.mem_append_right _ h)
theorem cdX5_blank : yX5_blank.cls = RX5 ∧ yX5_blank.cls ≠ "java/lang/invoke/MethodHandle" ∧ yX5_blank.cls ≠ "java/lang/invoke/VarHandle" ∧ (parseMethodDescriptor yX5_blank.desc).map (fun d => d.parameters.length) = some 0 := by decide +kernel
theorem inX5_fault_X5 : ∀ w ∈ wsX50, w ∈ wsX5_fault := fun _ h => List.mem_cons_of_mem _ (List.mem_append_left _ (List.mem_append_left _ (List.mem_append_left _ (List.mem_append_right _ h))))
theorem inX5_fault_X3 : ∀ w ∈ wsX30, w ∈ wsX5_fault := fun _ h => List.mem_cons_of_mem _ (List.mem_append_left _ (List.mem_append_left _ (List.mem_append_right _ h)))
theorem inX5_fault_X0 : ∀ w ∈ wsX00, w ∈ wsX5_fault := fun _ h => List.mem_cons_of_mem _ (List.mem_append_left _ (List.mem_append_right _ h))
theorem inX5_fault_X1 : ∀ w ∈ wsX10, w ∈ wsX5_fault := fun _ h => List.mem_cons_of_mem _ (List.mem_append_right _ h)
theorem cdX5_fault : yX5_fault.cls = RX5 ∧ yX5_fault.cls ≠ "java/lang/invoke/MethodHandle" ∧ yX5_fault.cls ≠ "java/lang/invoke/VarHandle" ∧ (parseMethodDescriptor yX5_fault.desc).map (fun d => d.parameters.length) = some 0 := by decide +kernel
theorem inX5_code_X5 : ∀ w ∈ wsX50, w ∈ wsX5_code := fun _ h => List.mem_cons_of_mem _ (List.mem_append_left _ (List.mem_append_left _ (List.mem_append_left _ (List.mem_append_left _ (List.mem_append_left _ (List.mem_append_right _ h))))))
theorem inX5_code_X3 : ∀ w ∈ wsX30, w ∈ wsX5_code := fun _ h => List.mem_cons_of_mem _ (List.mem_append_left _ (List.mem_append_left _ (List.mem_append_left _ (List.mem_append_left _ (List.mem_append_right _ h)))))
theorem inX5_code_X0 : ∀ w ∈ wsX00, w ∈ wsX5_code := fun _ h => List.mem_cons_of_mem _ (List.mem_append_left _ (List.mem_append_left _ (List.mem_append_left _ (List.mem_append_right _ h))))
theorem inX5_code_X1 : ∀ w ∈ wsX10, w ∈ wsX5_code := fun _ h => List.mem_cons_of_mem _ (List.mem_append_left _ (List.mem_append_left _ (List.mem_append_right _ h)))
theorem inX5_code_X2 : ∀ w ∈ wsX20, w ∈ wsX5_code := fun _ h => List.mem_cons_of_mem _ (List.mem_append_left _ (List.mem_append_right _ h))
theorem inX5_code_X4 : ∀ w ∈ wsX40, w ∈ wsX5_code := fun _ h => List.mem_cons_of_mem _ (List.mem_append_right _ h)
theorem cdX5_code : yX5_code.cls = RX5 ∧ yX5_code.cls ≠ "java/lang/invoke/MethodHandle" ∧ yX5_code.cls ≠ "java/lang/invoke/VarHandle" ∧ (parseMethodDescriptor yX5_code.desc).map (fun d => d.parameters.length) = some 0 := by decide +kernel
theorem inX5_reach_X5 : ∀ w ∈ wsX50, w ∈ wsX5_reach := fun _ h => List.mem_cons_of_mem _ (List.mem_append_left _ (List.mem_append_left _ (List.mem_append_left _ (List.mem_append_right _ h))))
theorem inX5_reach_X2 : ∀ w ∈ wsX20, w ∈ wsX5_reach := fun _ h => List.mem_cons_of_mem _ (List.mem_append_left _ (List.mem_append_left _ (List.mem_append_right _ h)))
theorem inX5_reach_X4 : ∀ w ∈ wsX40, w ∈ wsX5_reach := fun _ h => List.mem_cons_of_mem _ (List.mem_append_left _ (List.mem_append_right _ h))
theorem inX5_reach_X0 : ∀ w ∈ wsX00, w ∈ wsX5_reach := fun _ h => List.mem_cons_of_mem _ (List.mem_append_right _ h)
theorem cdX5_reach : yX5_reach.cls = RX5 ∧ yX5_reach.cls ≠ "java/lang/invoke/MethodHandle" ∧ yX5_reach.cls ≠ "java/lang/invoke/VarHandle" ∧ (parseMethodDescriptor yX5_reach.desc).map (fun d => d.parameters.length) = some 2 := by decide +kernel
theorem inX5_grow_X5 : ∀ w ∈ wsX50, w ∈ wsX5_grow := fun _ h => List.mem_cons_of_mem _ (List.mem_append_left _ (List.mem_append_left _ (List.mem_append_left _ (List.mem_append_right _ h))))
theorem inX5_grow_X0 : ∀ w ∈ wsX00, w ∈ wsX5_grow := fun _ h => List.mem_cons_of_mem _ (List.mem_append_left _ (List.mem_append_left _ (List.mem_append_right _ h)))
theorem inX5_grow_X2 : ∀ w ∈ wsX20, w ∈ wsX5_grow := fun _ h => List.mem_cons_of_mem _ (List.mem_append_left _ (List.mem_append_right _ h))
theorem inX5_grow_X4 : ∀ w ∈ wsX40, w ∈ wsX5_grow := fun _ h => List.mem_cons_of_mem _ (List.mem_append_right _ h)
theorem cdX5_grow : yX5_grow.cls = RX5 ∧ yX5_grow.cls ≠ "java/lang/invoke/MethodHandle" ∧ yX5_grow.cls ≠ "java/lang/invoke/VarHandle" ∧ (parseMethodDescriptor yX5_grow.desc).map (fun d => d.parameters.length) = some 2 := by decide +kernel
theorem inX5_item_X5 : ∀ w ∈ wsX50, w ∈ wsX5_item := fun _ h => List.mem_cons_of_mem _ (List.mem_append_left _ (List.mem_append_left _ (List.mem_append_right _ h)))
theorem inX5_item_X0 : ∀ w ∈ wsX00, w ∈ wsX5_item := fun _ h => List.mem_cons_of_mem _ (List.mem_append_left _ (List.mem_append_right _ h))
theorem inX5_item_X2 : ∀ w ∈ wsX20, w ∈ wsX5_item := fun _ h => List.mem_cons_of_mem _ (List.mem_append_right _ h)
theorem cdX5_item : yX5_item.cls = RX5 ∧ yX5_item.cls ≠ "java/lang/invoke/MethodHandle" ∧ yX5_item.cls ≠ "java/lang/invoke/VarHandle" ∧ (parseMethodDescriptor yX5_item.desc).map (fun d => d.parameters.length) = some 2 := by decide +kernel
theorem inX5_island_X5 : ∀ w ∈ wsX50, w ∈ wsX5_island := fun _ h => List.mem_cons_of_mem _ (List.mem_append_left _ (List.mem_append_left _ (List.mem_append_right _ h)))
theorem inX5_island_X2 : ∀ w ∈ wsX20, w ∈ wsX5_island := fun _ h => List.mem_cons_of_mem _ (List.mem_append_left _ (List.mem_append_right _ h))
theorem inX5_island_X4 : ∀ w ∈ wsX40, w ∈ wsX5_island := fun _ h => List.mem_cons_of_mem _ (List.mem_append_right _ h)
theorem cdX5_island : yX5_island.cls = RX5 ∧ yX5_island.cls ≠ "java/lang/invoke/MethodHandle" ∧ yX5_island.cls ≠ "java/lang/invoke/VarHandle" ∧ (parseMethodDescriptor yX5_island.desc).map (fun d => d.parameters.length) = some 2 := by decide +kernel
theorem inX5_constant_X5 : ∀ w ∈ wsX50, w ∈ wsX5_constant := fun _ h => List.mem_cons_of_mem _ (List.mem_append_left _ (List.mem_append_left _ (List.mem_append_left _ (List.mem_append_right _ h))))
theorem inX5_constant_X2 : ∀ w ∈ wsX20, w ∈ wsX5_constant := fun _ h => List.mem_cons_of_mem _ (List.mem_append_left _ (List.mem_append_left _ (List.mem_append_right _ h)))
theorem inX5_constant_X4 : ∀ w ∈ wsX40, w ∈ wsX5_constant := fun _ h => List.mem_cons_of_mem _ (List.mem_append_left _ (List.mem_append_right _ h))
theorem inX5_constant_X0 : ∀ w ∈ wsX00, w ∈ wsX5_constant := fun _ h => List.mem_cons_of_mem _ (List.mem_append_right _ h)
theorem cdX5_constant : yX5_constant.cls = RX5 ∧ yX5_constant.cls ≠ "java/lang/invoke/MethodHandle" ∧ yX5_constant.cls ≠ "java/lang/invoke/VarHandle" ∧ (parseMethodDescriptor yX5_constant.desc).map (fun d => d.parameters.length) = some 2 := by decide +kernel
theorem inX5_hops_X5 : ∀ w ∈ wsX50, w ∈ wsX5_hops := fun _ h => List.mem_cons_of_mem _ (List.mem_append_left _ (List.mem_append_left _ (List.mem_append_left _ (List.mem_append_right _ h))))
theorem inX5_hops_X0 : ∀ w ∈ wsX00, w ∈ wsX5_hops := fun _ h => List.mem_cons_of_mem _ (List.mem_append_left _ (List.mem_append_left _ (List.mem_append_right _ h)))
theorem inX5_hops_X2 : ∀ w ∈ wsX20, w ∈ wsX5_hops := fun _ h => List.mem_cons_of_mem _ (List.mem_append_left _ (List.mem_append_right _ h))
theorem inX5_hops_X4 : ∀ w ∈ wsX40, w ∈ wsX5_hops := fun _ h => List.mem_cons_of_mem _ (List.mem_append_right _ h)
theorem cdX5_hops : yX5_hops.cls = RX5 ∧ yX5_hops.cls ≠ "java/lang/invoke/MethodHandle" ∧ yX5_hops.cls ≠ "java/lang/invoke/VarHandle" ∧ (parseMethodDescriptor yX5_hops.desc).map (fun d => d.parameters.length) = some 1 := by decide +kernel
theorem inX5_placed_X5 : ∀ w ∈ wsX50, w ∈ wsX5_placed := fun _ h => List.mem_cons_of_mem _ (List.mem_append_left _ (List.mem_append_left _ (List.mem_append_right _ h)))
theorem inX5_placed_X2 : ∀ w ∈ wsX20, w ∈ wsX5_placed := fun _ h => List.mem_cons_of_mem _ (List.mem_append_left _ (List.mem_append_right _ h))
theorem inX5_placed_X4 : ∀ w ∈ wsX40, w ∈ wsX5_placed := fun _ h => List.mem_cons_of_mem _ (List.mem_append_right _ h)
theorem cdX5_placed : yX5_placed.cls = RX5 ∧ yX5_placed.cls ≠ "java/lang/invoke/MethodHandle" ∧ yX5_placed.cls ≠ "java/lang/invoke/VarHandle" ∧ (parseMethodDescriptor yX5_placed.desc).map (fun d => d.parameters.length) = some 1 := by decide +kernel
theorem inX5_count_X5 : ∀ w ∈ wsX50, w ∈ wsX5_count := fun _ h => List.mem_cons_of_mem _ (List.mem_append_left _ (List.mem_append_left _ (List.mem_append_right _ h)))
theorem inX5_count_X0 : ∀ w ∈ wsX00, w ∈ wsX5_count := fun _ h => List.mem_cons_of_mem _ (List.mem_append_left _ (List.mem_append_right _ h))
theorem inX5_count_X1 : ∀ w ∈ wsX10, w ∈ wsX5_count := fun _ h => List.mem_cons_of_mem _ (List.mem_append_right _ h)
theorem cdX5_count : yX5_count.cls = RX5 ∧ yX5_count.cls ≠ "java/lang/invoke/MethodHandle" ∧ yX5_count.cls ≠ "java/lang/invoke/VarHandle" ∧ (parseMethodDescriptor yX5_count.desc).map (fun d => d.parameters.length) = some 1 := by decide +kernel
theorem inX5_digestItems_X5 : ∀ w ∈ wsX50, w ∈ wsX5_digestItems := fun _ h => List.mem_cons_of_mem _ (List.mem_append_left _ (List.mem_append_left _ (List.mem_append_right _ h)))
theorem inX5_digestItems_X0 : ∀ w ∈ wsX00, w ∈ wsX5_digestItems := fun _ h => List.mem_cons_of_mem _ (List.mem_append_left _ (List.mem_append_right _ h))
theorem inX5_digestItems_X2 : ∀ w ∈ wsX20, w ∈ wsX5_digestItems := fun _ h => List.mem_cons_of_mem _ (List.mem_append_right _ h)
theorem cdX5_digestItems : yX5_digestItems.cls = RX5 ∧ yX5_digestItems.cls ≠ "java/lang/invoke/MethodHandle" ∧ yX5_digestItems.cls ≠ "java/lang/invoke/VarHandle" ∧ (parseMethodDescriptor yX5_digestItems.desc).map (fun d => d.parameters.length) = some 1 := by decide +kernel
theorem inX5_digestIslands_X5 : ∀ w ∈ wsX50, w ∈ wsX5_digestIslands := fun _ h => List.mem_cons_of_mem _ (List.mem_append_left _ (List.mem_append_left _ (List.mem_append_right _ h)))
theorem inX5_digestIslands_X2 : ∀ w ∈ wsX20, w ∈ wsX5_digestIslands := fun _ h => List.mem_cons_of_mem _ (List.mem_append_left _ (List.mem_append_right _ h))
theorem inX5_digestIslands_X4 : ∀ w ∈ wsX40, w ∈ wsX5_digestIslands := fun _ h => List.mem_cons_of_mem _ (List.mem_append_right _ h)
theorem cdX5_digestIslands : yX5_digestIslands.cls = RX5 ∧ yX5_digestIslands.cls ≠ "java/lang/invoke/MethodHandle" ∧ yX5_digestIslands.cls ≠ "java/lang/invoke/VarHandle" ∧ (parseMethodDescriptor yX5_digestIslands.desc).map (fun d => d.parameters.length) = some 1 := by decide +kernel
theorem inX5_digestConstants_X5 : ∀ w ∈ wsX50, w ∈ wsX5_digestConstants := fun _ h => List.mem_cons_of_mem _ (List.mem_append_left _ (List.mem_append_left _ (List.mem_append_left _ (List.mem_append_right _ h))))
theorem inX5_digestConstants_X2 : ∀ w ∈ wsX20, w ∈ wsX5_digestConstants := fun _ h => List.mem_cons_of_mem _ (List.mem_append_left _ (List.mem_append_left _ (List.mem_append_right _ h)))
theorem inX5_digestConstants_X4 : ∀ w ∈ wsX40, w ∈ wsX5_digestConstants := fun _ h => List.mem_cons_of_mem _ (List.mem_append_left _ (List.mem_append_right _ h))
theorem inX5_digestConstants_X0 : ∀ w ∈ wsX00, w ∈ wsX5_digestConstants := fun _ h => List.mem_cons_of_mem _ (List.mem_append_right _ h)
theorem cdX5_digestConstants : yX5_digestConstants.cls = RX5 ∧ yX5_digestConstants.cls ≠ "java/lang/invoke/MethodHandle" ∧ yX5_digestConstants.cls ≠ "java/lang/invoke/VarHandle" ∧ (parseMethodDescriptor yX5_digestConstants.desc).map (fun d => d.parameters.length) = some 1 := by decide +kernel
theorem inX5_digest_X5 : ∀ w ∈ wsX50, w ∈ wsX5_digest := fun _ h => List.mem_cons_of_mem _ (List.mem_append_left _ (List.mem_append_left _ (List.mem_append_left _ (List.mem_append_left _ (List.mem_append_right _ h)))))
theorem inX5_digest_X0 : ∀ w ∈ wsX00, w ∈ wsX5_digest := fun _ h => List.mem_cons_of_mem _ (List.mem_append_left _ (List.mem_append_left _ (List.mem_append_left _ (List.mem_append_right _ h))))
theorem inX5_digest_X2 : ∀ w ∈ wsX20, w ∈ wsX5_digest := fun _ h => List.mem_cons_of_mem _ (List.mem_append_left _ (List.mem_append_left _ (List.mem_append_right _ h)))
theorem inX5_digest_X4 : ∀ w ∈ wsX40, w ∈ wsX5_digest := fun _ h => List.mem_cons_of_mem _ (List.mem_append_left _ (List.mem_append_right _ h))
theorem inX5_digest_X1 : ∀ w ∈ wsX10, w ∈ wsX5_digest := fun _ h => List.mem_cons_of_mem _ (List.mem_append_right _ h)
theorem cdX5_digest : yX5_digest.cls = RX5 ∧ yX5_digest.cls ≠ "java/lang/invoke/MethodHandle" ∧ yX5_digest.cls ≠ "java/lang/invoke/VarHandle" ∧ (parseMethodDescriptor yX5_digest.desc).map (fun d => d.parameters.length) = some 0 := by decide +kernel
theorem cdX6_within : yX6_within.cls = RX6 ∧ yX6_within.cls ≠ "java/lang/invoke/MethodHandle" ∧ yX6_within.cls ≠ "java/lang/invoke/VarHandle" ∧ (parseMethodDescriptor yX6_within.desc).map (fun d => d.parameters.length) = some 3 := by decide +kernel
theorem inX6_letter_X6 : ∀ w ∈ wsX60, w ∈ wsX6_letter := fun _ h => List.mem_cons_of_mem _ (List.mem_append_right _ h)
theorem cdX6_letter : yX6_letter.cls = RX6 ∧ yX6_letter.cls ≠ "java/lang/invoke/MethodHandle" ∧ yX6_letter.cls ≠ "java/lang/invoke/VarHandle" ∧ (parseMethodDescriptor yX6_letter.desc).map (fun d => d.parameters.length) = some 1 := by decide +kernel
theorem inX6_blank_X6 : ∀ w ∈ wsX60, w ∈ wsX6_blank := fun _ h => List.mem_cons_of_mem _ (List.mem_append_right _ h)
theorem cdX6_blank : yX6_blank.cls = RX6 ∧ yX6_blank.cls ≠ "java/lang/invoke/MethodHandle" ∧ yX6_blank.cls ≠ "java/lang/invoke/VarHandle" ∧ (parseMethodDescriptor yX6_blank.desc).map (fun d => d.parameters.length) = some 0 := by decide +kernel
theorem cdX6_kindBy : yX6_kindBy.cls = RX6 ∧ yX6_kindBy.cls ≠ "java/lang/invoke/MethodHandle" ∧ yX6_kindBy.cls ≠ "java/lang/invoke/VarHandle" ∧ (parseMethodDescriptor yX6_kindBy.desc).map (fun d => d.parameters.length) = some 1 := by decide +kernel
theorem inX6_keepItem_X6 : ∀ w ∈ wsX60, w ∈ wsX6_keepItem := fun _ h => List.mem_cons_of_mem _ (List.mem_append_right _ h)
theorem cdX6_keepItem : yX6_keepItem.cls = RX6 ∧ yX6_keepItem.cls ≠ "java/lang/invoke/MethodHandle" ∧ yX6_keepItem.cls ≠ "java/lang/invoke/VarHandle" ∧ (parseMethodDescriptor yX6_keepItem.desc).map (fun d => d.parameters.length) = some 2 := by decide +kernel
theorem inX6_takesFirst_X6 : ∀ w ∈ wsX60, w ∈ wsX6_takesFirst := fun _ h => List.mem_cons_of_mem _ (List.mem_append_right _ h)
theorem cdX6_takesFirst : yX6_takesFirst.cls = RX6 ∧ yX6_takesFirst.cls ≠ "java/lang/invoke/MethodHandle" ∧ yX6_takesFirst.cls ≠ "java/lang/invoke/VarHandle" ∧ (parseMethodDescriptor yX6_takesFirst.desc).map (fun d => d.parameters.length) = some 1 := by decide +kernel
theorem inX6_takesLetter_X6 : ∀ w ∈ wsX60, w ∈ wsX6_takesLetter := fun _ h => List.mem_cons_of_mem _ (List.mem_append_right _ h)
theorem cdX6_takesLetter : yX6_takesLetter.cls = RX6 ∧ yX6_takesLetter.cls ≠ "java/lang/invoke/MethodHandle" ∧ yX6_takesLetter.cls ≠ "java/lang/invoke/VarHandle" ∧ (parseMethodDescriptor yX6_takesLetter.desc).map (fun d => d.parameters.length) = some 1 := by decide +kernel
theorem inX6_takesFigure_X6 : ∀ w ∈ wsX60, w ∈ wsX6_takesFigure := fun _ h => List.mem_cons_of_mem _ (List.mem_append_right _ h)
theorem cdX6_takesFigure : yX6_takesFigure.cls = RX6 ∧ yX6_takesFigure.cls ≠ "java/lang/invoke/MethodHandle" ∧ yX6_takesFigure.cls ≠ "java/lang/invoke/VarHandle" ∧ (parseMethodDescriptor yX6_takesFigure.desc).map (fun d => d.parameters.length) = some 1 := by decide +kernel
theorem inX6_takes_X6 : ∀ w ∈ wsX60, w ∈ wsX6_takes := fun _ h => List.mem_cons_of_mem _ (List.mem_append_right _ h)
theorem cdX6_takes : yX6_takes.cls = RX6 ∧ yX6_takes.cls ≠ "java/lang/invoke/MethodHandle" ∧ yX6_takes.cls ≠ "java/lang/invoke/VarHandle" ∧ (parseMethodDescriptor yX6_takes.desc).map (fun d => d.parameters.length) = some 1 := by decide +kernel
theorem inX6_goAlong_X6 : ∀ w ∈ wsX60, w ∈ wsX6_goAlong := fun _ h => List.mem_cons_of_mem _ (List.mem_append_right _ h)
theorem cdX6_goAlong : yX6_goAlong.cls = RX6 ∧ yX6_goAlong.cls ≠ "java/lang/invoke/MethodHandle" ∧ yX6_goAlong.cls ≠ "java/lang/invoke/VarHandle" ∧ (parseMethodDescriptor yX6_goAlong.desc).map (fun d => d.parameters.length) = some 0 := by decide +kernel
theorem inX6_fault_X6 : ∀ w ∈ wsX60, w ∈ wsX6_fault := fun _ h => List.mem_cons_of_mem _ (List.mem_append_right _ h)
theorem cdX6_fault : yX6_fault.cls = RX6 ∧ yX6_fault.cls ≠ "java/lang/invoke/MethodHandle" ∧ yX6_fault.cls ≠ "java/lang/invoke/VarHandle" ∧ (parseMethodDescriptor yX6_fault.desc).map (fun d => d.parameters.length) = some 0 := by decide +kernel
theorem cdX6_up : yX6_up.cls = RX6 ∧ yX6_up.cls ≠ "java/lang/invoke/MethodHandle" ∧ yX6_up.cls ≠ "java/lang/invoke/VarHandle" ∧ (parseMethodDescriptor yX6_up.desc).map (fun d => d.parameters.length) = some 2 := by decide +kernel
theorem inX6_sizeOf_X6 : ∀ w ∈ wsX60, w ∈ wsX6_sizeOf := fun _ h => List.mem_cons_of_mem _ (List.mem_append_right _ h)
theorem cdX6_sizeOf : yX6_sizeOf.cls = RX6 ∧ yX6_sizeOf.cls ≠ "java/lang/invoke/MethodHandle" ∧ yX6_sizeOf.cls ≠ "java/lang/invoke/VarHandle" ∧ (parseMethodDescriptor yX6_sizeOf.desc).map (fun d => d.parameters.length) = some 2 := by decide +kernel
theorem inX6_layGap_X6 : ∀ w ∈ wsX60, w ∈ wsX6_layGap := fun _ h => List.mem_cons_of_mem _ (List.mem_append_right _ h)
theorem cdX6_layGap : yX6_layGap.cls = RX6 ∧ yX6_layGap.cls ≠ "java/lang/invoke/MethodHandle" ∧ yX6_layGap.cls ≠ "java/lang/invoke/VarHandle" ∧ (parseMethodDescriptor yX6_layGap.desc).map (fun d => d.parameters.length) = some 2 := by decide +kernel
theorem inX6_layAll_X6 : ∀ w ∈ wsX60, w ∈ wsX6_layAll := fun _ h => List.mem_cons_of_mem _ (List.mem_append_right _ h)
theorem cdX6_layAll : yX6_layAll.cls = RX6 ∧ yX6_layAll.cls ≠ "java/lang/invoke/MethodHandle" ∧ yX6_layAll.cls ≠ "java/lang/invoke/VarHandle" ∧ (parseMethodDescriptor yX6_layAll.desc).map (fun d => d.parameters.length) = some 0 := by decide +kernel
theorem inX6_constantFor_X6 : ∀ w ∈ wsX60, w ∈ wsX6_constantFor := fun _ h => List.mem_cons_of_mem _ (List.mem_append_right _ h)
theorem cdX6_constantFor : yX6_constantFor.cls = RX6 ∧ yX6_constantFor.cls ≠ "java/lang/invoke/MethodHandle" ∧ yX6_constantFor.cls ≠ "java/lang/invoke/VarHandle" ∧ (parseMethodDescriptor yX6_constantFor.desc).map (fun d => d.parameters.length) = some 1 := by decide +kernel
theorem cdX6_apart : yX6_apart.cls = RX6 ∧ yX6_apart.cls ≠ "java/lang/invoke/MethodHandle" ∧ yX6_apart.cls ≠ "java/lang/invoke/VarHandle" ∧ (parseMethodDescriptor yX6_apart.desc).map (fun d => d.parameters.length) = some 2 := by decide +kernel
theorem inX6_reachesLabel_X6 : ∀ w ∈ wsX60, w ∈ wsX6_reachesLabel := fun _ h => List.mem_cons_of_mem _ (List.mem_append_right _ h)
theorem cdX6_reachesLabel : yX6_reachesLabel.cls = RX6 ∧ yX6_reachesLabel.cls ≠ "java/lang/invoke/MethodHandle" ∧ yX6_reachesLabel.cls ≠ "java/lang/invoke/VarHandle" ∧ (parseMethodDescriptor yX6_reachesLabel.desc).map (fun d => d.parameters.length) = some 2 := by decide +kernel
theorem inX6_islandFor_X6 : ∀ w ∈ wsX60, w ∈ wsX6_islandFor := fun _ h => List.mem_cons_of_mem _ (List.mem_append_right _ h)
theorem cdX6_islandFor : yX6_islandFor.cls = RX6 ∧ yX6_islandFor.cls ≠ "java/lang/invoke/MethodHandle" ∧ yX6_islandFor.cls ≠ "java/lang/invoke/VarHandle" ∧ (parseMethodDescriptor yX6_islandFor.desc).map (fun d => d.parameters.length) = some 2 := by decide +kernel
theorem inX6_goesFrom_X6 : ∀ w ∈ wsX60, w ∈ wsX6_goesFrom := fun _ h => List.mem_cons_of_mem _ (List.mem_append_right _ h)
theorem cdX6_goesFrom : yX6_goesFrom.cls = RX6 ∧ yX6_goesFrom.cls ≠ "java/lang/invoke/MethodHandle" ∧ yX6_goesFrom.cls ≠ "java/lang/invoke/VarHandle" ∧ (parseMethodDescriptor yX6_goesFrom.desc).map (fun d => d.parameters.length) = some 2 := by decide +kernel
theorem inX6_shortGoes_X6 : ∀ w ∈ wsX60, w ∈ wsX6_shortGoes := fun _ h => List.mem_cons_of_mem _ (List.mem_append_right _ h)
theorem cdX6_shortGoes : yX6_shortGoes.cls = RX6 ∧ yX6_shortGoes.cls ≠ "java/lang/invoke/MethodHandle" ∧ yX6_shortGoes.cls ≠ "java/lang/invoke/VarHandle" ∧ (parseMethodDescriptor yX6_shortGoes.desc).map (fun d => d.parameters.length) = some 1 := by decide +kernel
theorem inX6_goesTo_X6 : ∀ w ∈ wsX60, w ∈ wsX6_goesTo := fun _ h => List.mem_cons_of_mem _ (List.mem_append_right _ h)
theorem cdX6_goesTo : yX6_goesTo.cls = RX6 ∧ yX6_goesTo.cls ≠ "java/lang/invoke/MethodHandle" ∧ yX6_goesTo.cls ≠ "java/lang/invoke/VarHandle" ∧ (parseMethodDescriptor yX6_goesTo.desc).map (fun d => d.parameters.length) = some 1 := by decide +kernel
theorem inX6_firstStuck_X6 : ∀ w ∈ wsX60, w ∈ wsX6_firstStuck := fun _ h => List.mem_cons_of_mem _ (List.mem_append_right _ h)
theorem cdX6_firstStuck : yX6_firstStuck.cls = RX6 ∧ yX6_firstStuck.cls ≠ "java/lang/invoke/MethodHandle" ∧ yX6_firstStuck.cls ≠ "java/lang/invoke/VarHandle" ∧ (parseMethodDescriptor yX6_firstStuck.desc).map (fun d => d.parameters.length) = some 2 := by decide +kernel
theorem inX6_fails_X6 : ∀ w ∈ wsX60, w ∈ wsX6_fails := fun _ h => List.mem_cons_of_mem _ (List.mem_append_right _ h)
theorem cdX6_fails : yX6_fails.cls = RX6 ∧ yX6_fails.cls ≠ "java/lang/invoke/MethodHandle" ∧ yX6_fails.cls ≠ "java/lang/invoke/VarHandle" ∧ (parseMethodDescriptor yX6_fails.desc).map (fun d => d.parameters.length) = some 2 := by decide +kernel
theorem inX6_putConstant_X6 : ∀ w ∈ wsX60, w ∈ wsX6_putConstant := fun _ h => List.mem_cons_of_mem _ (List.mem_append_right _ h)
theorem cdX6_putConstant : yX6_putConstant.cls = RX6 ∧ yX6_putConstant.cls ≠ "java/lang/invoke/MethodHandle" ∧ yX6_putConstant.cls ≠ "java/lang/invoke/VarHandle" ∧ (parseMethodDescriptor yX6_putConstant.desc).map (fun d => d.parameters.length) = some 1 := by decide +kernel
theorem inX6_gapFor_X6 : ∀ w ∈ wsX60, w ∈ wsX6_gapFor := fun _ h => List.mem_cons_of_mem _ (List.mem_append_right _ h)
theorem cdX6_gapFor : yX6_gapFor.cls = RX6 ∧ yX6_gapFor.cls ≠ "java/lang/invoke/MethodHandle" ∧ yX6_gapFor.cls ≠ "java/lang/invoke/VarHandle" ∧ (parseMethodDescriptor yX6_gapFor.desc).map (fun d => d.parameters.length) = some 2 := by decide +kernel
theorem inX6_putIsland_X6 : ∀ w ∈ wsX60, w ∈ wsX6_putIsland := fun _ h => List.mem_cons_of_mem _ (List.mem_append_right _ h)
theorem cdX6_putIsland : yX6_putIsland.cls = RX6 ∧ yX6_putIsland.cls ≠ "java/lang/invoke/MethodHandle" ∧ yX6_putIsland.cls ≠ "java/lang/invoke/VarHandle" ∧ (parseMethodDescriptor yX6_putIsland.desc).map (fun d => d.parameters.length) = some 4 := by decide +kernel
theorem inX6_firstStuckIsland_X6 : ∀ w ∈ wsX60, w ∈ wsX6_firstStuckIsland := fun _ h => List.mem_cons_of_mem _ (List.mem_append_right _ h)
theorem cdX6_firstStuckIsland : yX6_firstStuckIsland.cls = RX6 ∧ yX6_firstStuckIsland.cls ≠ "java/lang/invoke/MethodHandle" ∧ yX6_firstStuckIsland.cls ≠ "java/lang/invoke/VarHandle" ∧ (parseMethodDescriptor yX6_firstStuckIsland.desc).map (fun d => d.parameters.length) = some 0 := by decide +kernel
theorem inX6_mends_X6 : ∀ w ∈ wsX60, w ∈ wsX6_mends := fun _ h => List.mem_cons_of_mem _ (List.mem_append_right _ h)
theorem cdX6_mends : yX6_mends.cls = RX6 ∧ yX6_mends.cls ≠ "java/lang/invoke/MethodHandle" ∧ yX6_mends.cls ≠ "java/lang/invoke/VarHandle" ∧ (parseMethodDescriptor yX6_mends.desc).map (fun d => d.parameters.length) = some 0 := by decide +kernel
theorem inX6_placeAll_X6 : ∀ w ∈ wsX60, w ∈ wsX6_placeAll := fun _ h => List.mem_cons_of_mem _ (List.mem_append_right _ h)
theorem cdX6_placeAll : yX6_placeAll.cls = RX6 ∧ yX6_placeAll.cls ≠ "java/lang/invoke/MethodHandle" ∧ yX6_placeAll.cls ≠ "java/lang/invoke/VarHandle" ∧ (parseMethodDescriptor yX6_placeAll.desc).map (fun d => d.parameters.length) = some 0 := by decide +kernel
theorem inX6_code_X6 : ∀ w ∈ wsX60, w ∈ wsX6_code := fun _ h => List.mem_cons_of_mem _ (List.mem_append_right _ h)
theorem cdX6_code : yX6_code.cls = RX6 ∧ yX6_code.cls ≠ "java/lang/invoke/MethodHandle" ∧ yX6_code.cls ≠ "java/lang/invoke/VarHandle" ∧ (parseMethodDescriptor yX6_code.desc).map (fun d => d.parameters.length) = some 0 := by decide +kernel
theorem inX6_isItem_X6 : ∀ w ∈ wsX60, w ∈ wsX6_isItem := fun _ h => List.mem_cons_of_mem _ (List.mem_append_right _ h)
theorem cdX6_isItem : yX6_isItem.cls = RX6 ∧ yX6_isItem.cls ≠ "java/lang/invoke/MethodHandle" ∧ yX6_isItem.cls ≠ "java/lang/invoke/VarHandle" ∧ (parseMethodDescriptor yX6_isItem.desc).map (fun d => d.parameters.length) = some 1 := by decide +kernel
theorem inX6_reach_X6 : ∀ w ∈ wsX60, w ∈ wsX6_reach := fun _ h => List.mem_cons_of_mem _ (List.mem_append_right _ h)
theorem cdX6_reach : yX6_reach.cls = RX6 ∧ yX6_reach.cls ≠ "java/lang/invoke/MethodHandle" ∧ yX6_reach.cls ≠ "java/lang/invoke/VarHandle" ∧ (parseMethodDescriptor yX6_reach.desc).map (fun d => d.parameters.length) = some 2 := by decide +kernel
theorem inX6_grow_X6 : ∀ w ∈ wsX60, w ∈ wsX6_grow := fun _ h => List.mem_cons_of_mem _ (List.mem_append_right _ h)
theorem cdX6_grow : yX6_grow.cls = RX6 ∧ yX6_grow.cls ≠ "java/lang/invoke/MethodHandle" ∧ yX6_grow.cls ≠ "java/lang/invoke/VarHandle" ∧ (parseMethodDescriptor yX6_grow.desc).map (fun d => d.parameters.length) = some 2 := by decide +kernel
theorem inX6_itemNow_X6 : ∀ w ∈ wsX60, w ∈ wsX6_itemNow := fun _ h => List.mem_cons_of_mem _ (List.mem_append_right _ h)
theorem cdX6_itemNow : yX6_itemNow.cls = RX6 ∧ yX6_itemNow.cls ≠ "java/lang/invoke/MethodHandle" ∧ yX6_itemNow.cls ≠ "java/lang/invoke/VarHandle" ∧ (parseMethodDescriptor yX6_itemNow.desc).map (fun d => d.parameters.length) = some 2 := by decide +kernel
theorem inX6_item_X6 : ∀ w ∈ wsX60, w ∈ wsX6_item := fun _ h => List.mem_cons_of_mem _ (List.mem_append_right _ h)
theorem cdX6_item : yX6_item.cls = RX6 ∧ yX6_item.cls ≠ "java/lang/invoke/MethodHandle" ∧ yX6_item.cls ≠ "java/lang/invoke/VarHandle" ∧ (parseMethodDescriptor yX6_item.desc).map (fun d => d.parameters.length) = some 2 := by decide +kernel
theorem inX6_islandNow_X6 : ∀ w ∈ wsX60, w ∈ wsX6_islandNow := fun _ h => List.mem_cons_of_mem _ (List.mem_append_right _ h)
theorem cdX6_islandNow : yX6_islandNow.cls = RX6 ∧ yX6_islandNow.cls ≠ "java/lang/invoke/MethodHandle" ∧ yX6_islandNow.cls ≠ "java/lang/invoke/VarHandle" ∧ (parseMethodDescriptor yX6_islandNow.desc).map (fun d => d.parameters.length) = some 2 := by decide +kernel
theorem inX6_island_X6 : ∀ w ∈ wsX60, w ∈ wsX6_island := fun _ h => List.mem_cons_of_mem _ (List.mem_append_right _ h)
theorem cdX6_island : yX6_island.cls = RX6 ∧ yX6_island.cls ≠ "java/lang/invoke/MethodHandle" ∧ yX6_island.cls ≠ "java/lang/invoke/VarHandle" ∧ (parseMethodDescriptor yX6_island.desc).map (fun d => d.parameters.length) = some 2 := by decide +kernel
theorem inX6_loadsOf_X6 : ∀ w ∈ wsX60, w ∈ wsX6_loadsOf := fun _ h => List.mem_cons_of_mem _ (List.mem_append_right _ h)
theorem cdX6_loadsOf : yX6_loadsOf.cls = RX6 ∧ yX6_loadsOf.cls ≠ "java/lang/invoke/MethodHandle" ∧ yX6_loadsOf.cls ≠ "java/lang/invoke/VarHandle" ∧ (parseMethodDescriptor yX6_loadsOf.desc).map (fun d => d.parameters.length) = some 1 := by decide +kernel
theorem inX6_constantNow_X6 : ∀ w ∈ wsX60, w ∈ wsX6_constantNow := fun _ h => List.mem_cons_of_mem _ (List.mem_append_right _ h)
theorem cdX6_constantNow : yX6_constantNow.cls = RX6 ∧ yX6_constantNow.cls ≠ "java/lang/invoke/MethodHandle" ∧ yX6_constantNow.cls ≠ "java/lang/invoke/VarHandle" ∧ (parseMethodDescriptor yX6_constantNow.desc).map (fun d => d.parameters.length) = some 2 := by decide +kernel
theorem inX6_constant_X6 : ∀ w ∈ wsX60, w ∈ wsX6_constant := fun _ h => List.mem_cons_of_mem _ (List.mem_append_right _ h)
theorem cdX6_constant : yX6_constant.cls = RX6 ∧ yX6_constant.cls ≠ "java/lang/invoke/MethodHandle" ∧ yX6_constant.cls ≠ "java/lang/invoke/VarHandle" ∧ (parseMethodDescriptor yX6_constant.desc).map (fun d => d.parameters.length) = some 2 := by decide +kernel
theorem inX6_hopsNow_X6 : ∀ w ∈ wsX60, w ∈ wsX6_hopsNow := fun _ h => List.mem_cons_of_mem _ (List.mem_append_right _ h)
theorem cdX6_hopsNow : yX6_hopsNow.cls = RX6 ∧ yX6_hopsNow.cls ≠ "java/lang/invoke/MethodHandle" ∧ yX6_hopsNow.cls ≠ "java/lang/invoke/VarHandle" ∧ (parseMethodDescriptor yX6_hopsNow.desc).map (fun d => d.parameters.length) = some 1 := by decide +kernel
theorem inX6_hops_X6 : ∀ w ∈ wsX60, w ∈ wsX6_hops := fun _ h => List.mem_cons_of_mem _ (List.mem_append_right _ h)
theorem cdX6_hops : yX6_hops.cls = RX6 ∧ yX6_hops.cls ≠ "java/lang/invoke/MethodHandle" ∧ yX6_hops.cls ≠ "java/lang/invoke/VarHandle" ∧ (parseMethodDescriptor yX6_hops.desc).map (fun d => d.parameters.length) = some 1 := by decide +kernel
theorem inX6_longMany_X6 : ∀ w ∈ wsX60, w ∈ wsX6_longMany := fun _ h => List.mem_cons_of_mem _ (List.mem_append_right _ h)
theorem cdX6_longMany : yX6_longMany.cls = RX6 ∧ yX6_longMany.cls ≠ "java/lang/invoke/MethodHandle" ∧ yX6_longMany.cls ≠ "java/lang/invoke/VarHandle" ∧ (parseMethodDescriptor yX6_longMany.desc).map (fun d => d.parameters.length) = some 0 := by decide +kernel
theorem inX6_placedNow_X6 : ∀ w ∈ wsX60, w ∈ wsX6_placedNow := fun _ h => List.mem_cons_of_mem _ (List.mem_append_right _ h)
theorem cdX6_placedNow : yX6_placedNow.cls = RX6 ∧ yX6_placedNow.cls ≠ "java/lang/invoke/MethodHandle" ∧ yX6_placedNow.cls ≠ "java/lang/invoke/VarHandle" ∧ (parseMethodDescriptor yX6_placedNow.desc).map (fun d => d.parameters.length) = some 1 := by decide +kernel
theorem inX6_placed_X6 : ∀ w ∈ wsX60, w ∈ wsX6_placed := fun _ h => List.mem_cons_of_mem _ (List.mem_append_right _ h)
theorem cdX6_placed : yX6_placed.cls = RX6 ∧ yX6_placed.cls ≠ "java/lang/invoke/MethodHandle" ∧ yX6_placed.cls ≠ "java/lang/invoke/VarHandle" ∧ (parseMethodDescriptor yX6_placed.desc).map (fun d => d.parameters.length) = some 1 := by decide +kernel
theorem inX6_gaps_X6 : ∀ w ∈ wsX60, w ∈ wsX6_gaps := fun _ h => List.mem_cons_of_mem _ (List.mem_append_right _ h)
theorem cdX6_gaps : yX6_gaps.cls = RX6 ∧ yX6_gaps.cls ≠ "java/lang/invoke/MethodHandle" ∧ yX6_gaps.cls ≠ "java/lang/invoke/VarHandle" ∧ (parseMethodDescriptor yX6_gaps.desc).map (fun d => d.parameters.length) = some 0 := by decide +kernel
theorem inX6_howMany_X6 : ∀ w ∈ wsX60, w ∈ wsX6_howMany := fun _ h => List.mem_cons_of_mem _ (List.mem_append_right _ h)
theorem cdX6_howMany : yX6_howMany.cls = RX6 ∧ yX6_howMany.cls ≠ "java/lang/invoke/MethodHandle" ∧ yX6_howMany.cls ≠ "java/lang/invoke/VarHandle" ∧ (parseMethodDescriptor yX6_howMany.desc).map (fun d => d.parameters.length) = some 1 := by decide +kernel
theorem inX6_count_X6 : ∀ w ∈ wsX60, w ∈ wsX6_count := fun _ h => List.mem_cons_of_mem _ (List.mem_append_right _ h)
theorem cdX6_count : yX6_count.cls = RX6 ∧ yX6_count.cls ≠ "java/lang/invoke/MethodHandle" ∧ yX6_count.cls ≠ "java/lang/invoke/VarHandle" ∧ (parseMethodDescriptor yX6_count.desc).map (fun d => d.parameters.length) = some 1 := by decide +kernel
theorem inX6_mix_X6 : ∀ w ∈ wsX60, w ∈ wsX6_mix := fun _ h => List.mem_cons_of_mem _ (List.mem_append_right _ h)
theorem cdX6_mix : yX6_mix.cls = RX6 ∧ yX6_mix.cls ≠ "java/lang/invoke/MethodHandle" ∧ yX6_mix.cls ≠ "java/lang/invoke/VarHandle" ∧ (parseMethodDescriptor yX6_mix.desc).map (fun d => d.parameters.length) = some 1 := by decide +kernel
theorem inX6_digest_X6 : ∀ w ∈ wsX60, w ∈ wsX6_digest := fun _ h => List.mem_cons_of_mem _ (List.mem_append_right _ h)
theorem cdX6_digest : yX6_digest.cls = RX6 ∧ yX6_digest.cls ≠ "java/lang/invoke/MethodHandle" ∧ yX6_digest.cls ≠ "java/lang/invoke/VarHandle" ∧ (parseMethodDescriptor yX6_digest.desc).map (fun d => d.parameters.length) = some 0 := by decide +kernel
