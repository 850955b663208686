/-! MAP WORLDS: a side of the heap as a partial map from addresses to cells; contracts speak of the whole map of their side. -/
abbrev wd_M : Type := Nat → Option va_E
def wd_up (f : wd_M) (a : Nat) (e : va_E) : wd_M := fun q => if q = a then some e else f q
theorem wd_us {f : wd_M} {a : Nat} {e : va_E} : wd_up f a e a = some e := by simp [wd_up]
theorem wd_un {f : wd_M} {a q : Nat} {e : va_E} (h : q ≠ a) : wd_up f a e q = f q := by simp [wd_up, h]
def wd_P (D : va_G) (cl : List vw_C) (f : wd_M) (H : Heap) : Prop := ∀ (a : Nat) (e : va_E), f a = some e → va_at D cl (a, e) H
def wd_I (D : va_G) (cl : List vw_C) (A : Nat → Prop) (H0 : Heap) (f : wd_M) (H : Heap) (locs : List Loc) : Prop := wd_P D cl f H ∧ va_S A H0 H locs ∧ (∀ q : Nat, f q ≠ none → A q) ∧ ∀ q : Nat, H0.size ≤ q → A q
def wd_A (f : wd_M) (sz : Nat) : Nat → Prop := fun q => f q ≠ none ∨ sz ≤ q
def wd_pre (D : va_G) (cl : List vw_C) (tys : List (ClassId × FieldType)) (f : wd_M) (U : State) : Prop := wd_P D cl f U.heap ∧ va_K D cl tys U
def wd_preZ (D : va_G) (cl : List vw_C) (tys : List (ClassId × FieldType)) (f : wd_M) (sz : Nat) (U : State) : Prop := U.heap.size = sz ∧ wd_P D cl f U.heap ∧ va_K D cl tys U
/-- the arrays of references that a constructor makes -/
def wd_ao (C1 C2 : String) (U : State) : Prop := va_AO C1 U ∧ va_AO C2 U
def wd_preA (C1 C2 : String) (D : va_G) (cl : List vw_C) (tys : List (ClassId × FieldType)) (f : wd_M) (sz : Nat) (U : State) : Prop := wd_ao C1 C2 U ∧ wd_preZ D cl tys f sz U
def wd_B (D : va_G) (cl : List vw_C) (f : wd_M) (sz : Nat) (f' : wd_M) (t : State) : Prop := wd_P D cl f' t.heap ∧ ∀ q : Nat, f' q ≠ none → wd_A f sz q
section WDP
variable {D : va_G} {cl : List vw_C} {f : wd_M} {H H1 H0 : Heap} {a : Nat} {e e0 : va_E} {A : Nat → Prop} {locs : List Loc}
theorem wd_P.one (h : wd_P D cl f H) (ha : f a = some e) : va_P D cl [(a, e)] H := by
  intro k q hk
  have hz : k < 1 := (List.getElem?_eq_some_iff.mp hk).1
  rw [show k = 0 by omega] at hk
  cases hk
  exact h a e ha
theorem wd_P.lt (h : wd_P D cl f H) (ha : f a = some e) : a < H.size := (h a e ha).lt
theorem wd_P.fresh (h : wd_P D cl f H) (ha : H.size ≤ a) : f a = none := by
  cases hf : f a with
  | none => rfl
  | some e => exact absurd (h.lt hf) (by omega)
theorem wd_P.set (h : wd_P D cl f H) (he : va_at D cl (a, e) H1) (oq : ∀ q : Nat, q ≠ a → H1[q]? = H[q]?) : wd_P D cl (wd_up f a e) H1 := by
  intro q x hx
  by_cases hq : q = a
  · subst hq
    rw [wd_us] at hx
    cases hx
    exact he
  · rw [wd_un hq] at hx
    exact (h q x hx).kept (oq q hq)
theorem wd_P.push (h : wd_P D cl f H) (he : va_at D cl (H.size, e) H1) (oq : ∀ q : Nat, q < H.size → H1[q]? = H[q]?) : wd_P D cl (wd_up f H.size e) H1 := by
  intro q x hx
  by_cases hq : q = H.size
  · subst hq
    rw [wd_us] at hx
    cases hx
    exact he
  · rw [wd_un hq] at hx
    exact (h q x hx).kept (oq q (h.lt hx))
theorem wd_I.set {k : Nat} (h : wd_I D cl A H0 f H locs) (ha : f a = some e0) (he : va_at D cl (a, e) H1) (z : H1.size = H.size) (oq : ∀ q : Nat, q ≠ a → H1[q]? = H[q]?) : wd_I D cl A H0 (wd_up f a e) H1 (locs ++ [⟨a, k⟩]) := by
  have hAa : A a := h.2.2.1 a (by rw [ha]; exact fun x => by cases x)
  refine ⟨h.1.set he oq, h.2.1.put z oq hAa, fun q hq => ?_, h.2.2.2⟩
  by_cases hqa : q = a
  · subst hqa
    exact hAa
  · rw [wd_un hqa] at hq
    exact h.2.2.1 q hq
theorem wd_I.push (h : wd_I D cl A H0 f H locs) (he : va_at D cl (H.size, e) H1) (z : H1.size = H.size + 1) (oq : ∀ q : Nat, q < H.size → H1[q]? = H[q]?) : wd_I D cl A H0 (wd_up f H.size e) H1 locs := by
  have hAa : A H.size := h.2.2.2 _ h.2.1.1
  refine ⟨h.1.push he oq, ⟨Nat.le_trans h.2.1.1 (by omega), fun x h1 h2 => (oq x (Nat.lt_of_lt_of_le h1 h.2.1.1)).trans (h.2.1.2.1 x h1 h2), h.2.1.2.2⟩, fun q hq => ?_, h.2.2.2⟩
  by_cases hqa : q = H.size
  · subst hqa
    exact hAa
  · rw [wd_un hqa] at hq
    exact h.2.2.1 q hq
theorem wd_I.start {s : State} (h : wd_P D cl f s.heap) : wd_I D cl (wd_A f s.heap.size) s.heap f s.heap [] := ⟨h, va_S.rf, fun _ hq => Or.inl hq, fun _ hq => Or.inr hq⟩
theorem wd_I.sub (h : wd_I D cl A H0 f H locs) {q : Nat} (hq : wd_A f H.size q) : A q := by
  rcases hq with hq | hq
  · exact h.2.2.1 q hq
  · exact h.2.2.2 q (Nat.le_trans h.2.1.1 hq)
theorem wd_ne {b : Nat} {ci cj : Nat} {fs gs : List Value} (ha : f a = some (.inr (ci, fs))) (hb : f b = some (.inr (cj, gs))) (h : ci ≠ cj) : a ≠ b := by
  intro q
  subst q
  rw [ha] at hb
  cases hb
  exact h rfl
theorem wd_neA {b : Nat} {ci : Nat} {fs : List Value} {x : ClassId × vp_A} (ha : f a = some (.inr (ci, fs))) (hb : f b = some (.inl x)) : a ≠ b := by
  intro q
  subst q
  rw [ha] at hb
  cases hb
theorem wd_neF {b : Nat} (ha : f a = some e) (hb : f b = none) : a ≠ b := by
  intro q
  subst q
  rw [ha] at hb
  cases hb
end WDP
theorem wd_blind {D : va_G} {cl : List vw_C} {tys : List (ClassId × FieldType)} {f : wd_M} {av : List Value} : FrameBlind (va_Pc av (wd_pre D cl tys f)) := fun a U g mk q => ⟨q.1, q.2.1, va_K.moved (u := U) (U := U.calling g mk a) (Vm.Alike.refl U.vm) q.2.2⟩
theorem wd_blindZ {D : va_G} {cl : List vw_C} {tys : List (ClassId × FieldType)} {f : wd_M} {sz : Nat} {av : List Value} : FrameBlind (va_Pc av (wd_preZ D cl tys f sz)) := fun a U g mk q => ⟨q.1, q.2.1, q.2.2.1, va_K.moved (u := U) (U := U.calling g mk a) (Vm.Alike.refl U.vm) q.2.2.2⟩
theorem wd_blindA {C1 C2 : String} {D : va_G} {cl : List vw_C} {tys : List (ClassId × FieldType)} {f : wd_M} {sz : Nat} {av : List Value} : FrameBlind (va_Pc av (wd_preA C1 C2 D cl tys f sz)) := fun a U g mk q => ⟨q.1, ⟨va_AO.moved (u := U) (U := U.calling g mk a) (Vm.Alike.refl U.vm) q.2.1.1, va_AO.moved (u := U) (U := U.calling g mk a) (Vm.Alike.refl U.vm) q.2.1.2⟩, q.2.2.1, q.2.2.2.1, va_K.moved (u := U) (U := U.calling g mk a) (Vm.Alike.refl U.vm) q.2.2.2.2⟩
/-- a contract's beginning: the locals, the words, the code -/
theorem wd_met {l : Launch} {y : MethodName} {Ts : List Cond} {rm : Room} {Qc : Array Value → State → Outcome → State → Prop} {mc ms : Nat} {free : Addr → Prop} {cc : ByteArray} {maxL : Nat} {ret : Option FieldType} {av : List Value} {pre : State → Prop} {own : String}
    (hy : plainName y.cls = true) (ho : y.cls = own) (hlen : (lg_sl av).length ≤ maxL)
    (body : ∀ (p : Program) (e : Env) (s : State) (m : MethodId) (below : List Frame) (meth : Method) (c : Code), CallFix p m c cc maxL s av.toArray Ts own → meth.sig.returnType = ret → meth.locks = false → meth.name = y.name → pre s → ∀ ls : Array Slot, lv_has ls maxL (lv_args 0 av) →
      W p l e rm s m av.toArray below meth c s.heap [] 0 0 (MQ below Qc av.toArray s mc ms free) (F0 m 0 ls [])) : Met l y (.code y cc maxL ret :: Ts) rm (va_Pc av pre) Qc mc ms free := by
  refine Met.ofW (cc := cc) (maxL := maxL) (ret := ret) hy rfl ?_
  intro p e s m args below meth c s₁ B hml hv
  obtain ⟨rfl, hpre⟩ := hv
  have hts := atoms_spec (ws := .code y cc maxL ret :: Ts) B.pre
  have hown : s.vm.findClass own = some m.cls := by rw [← ho]; exact findClass_of_methodNamed B.named
  rw [lg_entry_eq]
  exact body p e s m below meth c ⟨B.exec, B.bytes, hml, hown, fun w h => hts w (List.mem_cons_of_mem _ h)⟩ B.returns B.notSynchronized (name_of_methodNamed B.named B.method).1 hpre _ (lv_entry av hlen)
section WDR
variable {p : Program} {l : Launch} {e : Env} {R : Room} {s : State} {m : MethodId} {args : Array Value} {below : List Frame} {meth : Method} {c : Code} {H : Heap} {locs : List Loc} {cells slots : Nat} {Q : State → Prop}
variable {cc : ByteArray} {pc nL : Nat} {ls : Array Slot} {rest st0 : List Value} {D : va_G} {cl : List vw_C} {A : Nat → Prop} {a : Nat} {tys : List (ClassId × FieldType)} {H0 : Heap} {f : wd_M} {own : String} {Ts : List Cond}
theorem wd_get (X : CallFix p m c cc nL s args Ts own) (hK : va_K D cl tys s) (hw : wd_I D cl A H0 f H locs) {ref C : String} {T : u_T} {N ci index : Nat} (hin : ∀ w ∈ u_ws C T N, w ∈ Ts) {fs : List Value} (ha : f a = some (.inr (ci, fs))) (hc : cl[ci]? = some (C, T, N)) (k : Nat) (hk : k < N) (hlink : Cond.fieldLink own index ref (T k).2.1 (T k).2.2.1 ∈ Ts) (hsame : ∀ x, s.fieldFound? (T k).1 (T k).2.1 (T k).2.2.1 = some x → s.fieldFound? ref (T k).2.1 (T k).2.2.1 = some x) {v : Value} (hv : fs[k]? = some v) (hdg : decode cc pc = .ok (.getfield index, 3))
    (kk : W p l e R s m args below meth c H locs cells slots Q (F0 m (pc + 3) ls (v :: rest))) : W p l e R s m args below meth c H locs cells slots Q (F0 m pc ls (.ref a :: rest)) :=
  va_get X.1 X.2.1 X.2.2.2.2 hin X.2.2.2.1 hK (hw.1.one ha) 0 rfl hc k hk (X.2.2.2.2 _ hlink) hsame hv hdg kk
theorem wd_put (X : CallFix p m c cc nL s args Ts own) (hK : va_K D cl tys s) (hw : wd_I D cl A H0 f H locs) {ref C : String} {T : u_T} {N ci index : Nat} (hin : ∀ w ∈ u_ws C T N, w ∈ Ts) (ty0 : Nat → FieldType) (hty : ∀ k, k < N → parseFieldDescriptor (T k).2.2.1 = some (ty0 k)) (hnm : ∀ a, a < N → ∀ b, b < N → a ≠ b → (T a).2.1 ≠ (T b).2.1) {fs : List Value} (ha : f a = some (.inr (ci, fs))) (hc : cl[ci]? = some (C, T, N)) (k : Nat) (hk : k < N) (hlink : Cond.fieldLink own index ref (T k).2.1 (T k).2.2.1 ∈ Ts) (hsame : ∀ x, s.fieldFound? (T k).1 (T k).2.1 (T k).2.2.1 = some x → s.fieldFound? ref (T k).2.1 (T k).2.2.1 = some x) (hfin : (T k).2.2.2 = false) {ty : FieldType} {v : Value} (hd : parseFieldDescriptor (T k).2.2.1 = some ty) (hn : narrow ty v = v) (hfit : fits ty v = true) (hl : k < fs.length) (hdg : decode cc pc = .ok (.putfield index, 3))
    (kk : ∀ (f1 : wd_M) (H1 : Heap) (locs1 : List Loc), f1 = wd_up f a (.inr (ci, fs.set k v)) → wd_I D cl A H0 f1 H1 locs1 → W p l e R s m args below meth c H1 locs1 cells slots Q (F0 m (pc + 3) ls rest)) : W p l e R s m args below meth c H locs cells slots Q (F0 m pc ls (v :: .ref a :: rest)) := by
  obtain ⟨hexec, hb, hml, hown, hts⟩ := X
  have hap := va_apart (own := own) hts hin ty0 hty hnm hK hc
  obtain ⟨r, h1, cell, q1, q2, q3, q4⟩ := hw.1 _ _ ha
  have hr : r = (C, T, N) := Option.some.inj (h1.symm.trans hc)
  subst hr
  obtain ⟨hS, hfc, kC, hkC, hkind⟩ := hK.1 ci _ hc
  obtain ⟨cf, kf, fi, fd, hi, hsl⟩ := hS k hk
  have hlay := hts _ (hin _ (u_in_lay hk))
  unfold u_lay at hlay
  rw [if_neg (by rw [hfin]; decide)] at hlay
  have hst := (u_facts hfc hkC (u_lays hts hin hk) hi).1
  have h6 := u_store hfc hkC hkind hlay hi hd hn hfit
  refine W.putK hexec hb (f := fd) ⟨hown, hts _ hlink, ⟨_, _, _, hsame _ hi⟩, hst⟩ (by rw [q2]; exact h6) q1 q3 (by rw [hsl]; exact k2_hasslot (q4 k hk)) rfl rfl hdg fun H' e1 e2 e3 => ?_
  rw [hsl] at e1 ⊢
  exact kk _ H' _ rfl (hw.set ha ⟨_, hc, t_OB.to (V := updV (vp_V fs) k v) ⟨_, e1, q2, q3, t_set q4 hap hk v⟩ (fun j _ => vp_updV_set hl v j)⟩ e2 e3)
theorem wd_putF (X : CallFix p m c cc nL s args Ts own) (hK : va_K D cl tys s) (hw : wd_I D cl A H0 f H locs) (hin2 : meth.name = "<init>") {ref C : String} {T : u_T} {N ci index : Nat} (hin : ∀ w ∈ u_ws C T N, w ∈ Ts) (ty0 : Nat → FieldType) (hty : ∀ k, k < N → parseFieldDescriptor (T k).2.2.1 = some (ty0 k)) (hnm : ∀ a, a < N → ∀ b, b < N → a ≠ b → (T a).2.1 ≠ (T b).2.1) {fs : List Value} (ha : f a = some (.inr (ci, fs))) (hc : cl[ci]? = some (C, T, N)) (k : Nat) (hk : k < N) (hlink : Cond.fieldLink own index ref (T k).2.1 (T k).2.2.1 ∈ Ts) (hsame : ∀ x, s.fieldFound? (T k).1 (T k).2.1 (T k).2.2.1 = some x → s.fieldFound? ref (T k).2.1 (T k).2.2.1 = some x) (hfin : (T k).2.2.2 = true) (hdecl : (T k).1 = own) {ty : FieldType} {v : Value} (hd : parseFieldDescriptor (T k).2.2.1 = some ty) (hn : narrow ty v = v) (hfit : fits ty v = true) (hl : k < fs.length) (hdg : decode cc pc = .ok (.putfield index, 3))
    (kk : ∀ (f1 : wd_M) (H1 : Heap) (locs1 : List Loc), f1 = wd_up f a (.inr (ci, fs.set k v)) → wd_I D cl A H0 f1 H1 locs1 → W p l e R s m args below meth c H1 locs1 cells slots Q (F0 m (pc + 3) ls rest)) : W p l e R s m args below meth c H locs cells slots Q (F0 m pc ls (v :: .ref a :: rest)) := by
  obtain ⟨hexec, hb, hml, hown, hts⟩ := X
  have hap := va_apart (own := own) hts hin ty0 hty hnm hK hc
  obtain ⟨r, h1, cell, q1, q2, q3, q4⟩ := hw.1 _ _ ha
  have hr : r = (C, T, N) := Option.some.inj (h1.symm.trans hc)
  subst hr
  obtain ⟨hS, hfc, kC, hkC, hkind⟩ := hK.1 ci _ hc
  obtain ⟨cf, kf, fi, fd, hi, hsl⟩ := hS k hk
  have hlay := hts _ (hin _ (u_in_lay hk))
  unfold u_lay at hlay
  rw [if_pos hfin] at hlay
  have hst := (u_facts hfc hkC (u_lays hts hin hk) hi).1
  have hcf : m.cls = cf := by
    obtain ⟨_, _, c', _, _, _, -, -, hf', -, -, -, hown2, -⟩ := Cond.laysFinal_spec hlay
    have e1 : c' = cf := by have := hi.symm.trans hf'; simp at this; exact this.1.symm
    rw [hdecl] at hown2
    rw [← e1]; exact Option.some.inj (hown.symm.trans hown2)
  have h6 := u_fits hfc hkC hkind (Or.inr hlay) hi hd hn hfit
  refine W.putFinK hexec hb hown (hts _ hlink) (hsame _ hi) hst hcf hin2 (by rw [q2]; exact h6) q1 q3 (by rw [hsl]; exact k2_hasslot (q4 k hk)) rfl rfl hdg fun H' e1 e2 e3 => ?_
  rw [hsl] at e1 ⊢
  exact kk _ H' _ rfl (hw.set ha ⟨_, hc, t_OB.to (V := updV (vp_V fs) k v) ⟨_, e1, q2, q3, t_set q4 hap hk v⟩ (fun j _ => vp_updV_set hl v j)⟩ e2 e3)
theorem wd_alen (X : CallFix p m c cc nL s args Ts own) (hK : va_K D cl tys s) (hw : wd_I D cl A H0 f H locs) {cA : ClassId} {x : vp_A} (ha : f a = some (.inl (cA, x))) (t0 : Nat) {ty : FieldType} (ht : tys[t0]? = some (cA, ty)) {v : Int32} (hv : Int32.ofNat x.1 = v) (hdg : decode cc pc = .ok (.arraylength, 1))
    (kk : W p l e R s m args below meth c H locs cells slots Q (F0 m (pc + 1) ls (.int v :: rest))) : W p l e R s m args below meth c H locs cells slots Q (F0 m pc ls (.ref a :: rest)) :=
  va_alen X.1 X.2.1 hK (hw.1.one ha) 0 t0 rfl ht hv hdg kk
theorem wd_aldq (X : CallFix p m c cc nL s args Ts own) (hK : va_K D cl tys s) (hw : wd_I D cl A H0 f H locs) {cA : ClassId} {n : Nat} {g : Nat → Option Nat} (ha : f a = some (.inl (cA, n, .inr (.inr (.inr (.inr g)))))) (t0 : Nat) {C : String} (ht : tys[t0]? = some (cA, .object C)) {i : Int32} (hin : vp_in i n) (hdg : decode cc pc = .ok (.aaload, 1))
    (kk : W p l e R s m args below meth c H locs cells slots Q (F0 m (pc + 1) ls (va_rf (g i.toNatClampNeg) :: rest))) : W p l e R s m args below meth c H locs cells slots Q (F0 m pc ls (.int i :: .ref a :: rest)) :=
  va_aldq X.1 X.2.1 hK (hw.1.one ha) 0 t0 rfl ht hin hdg kk
theorem wd_aldS (X : CallFix p m c cc nL s args Ts own) (hK : va_K D cl tys s) (hw : wd_I D cl A H0 f H locs) {cA : ClassId} {n : Nat} {g : Nat → Option Nat} (ha : f a = some (.inl (cA, n, .inr (.inr (.inr (.inr g)))))) (t0 : Nat) {C : String} (ht : tys[t0]? = some (cA, .object C)) {j q : Nat} (hj : j < n) (hn : n < 2 ^ 31) (hq : g j = some q) (hdg : decode cc pc = .ok (.aaload, 1))
    (kk : W p l e R s m args below meth c H locs cells slots Q (F0 m (pc + 1) ls (.ref q :: rest))) : W p l e R s m args below meth c H locs cells slots Q (F0 m pc ls (.int (nI j) :: .ref a :: rest)) :=
  wd_aldq X hK hw ha t0 ht (vp_in_nI hj hn) hdg (by rw [nI_clamp (Nat.lt_trans hj hn), hq]; exact kk)
theorem wd_aldN (X : CallFix p m c cc nL s args Ts own) (hK : va_K D cl tys s) (hw : wd_I D cl A H0 f H locs) {cA : ClassId} {n : Nat} {g : Nat → Option Nat} (ha : f a = some (.inl (cA, n, .inr (.inr (.inr (.inr g)))))) (t0 : Nat) {C : String} (ht : tys[t0]? = some (cA, .object C)) {j : Nat} (hj : j < n) (hn : n < 2 ^ 31) (hq : g j = none) (hdg : decode cc pc = .ok (.aaload, 1))
    (kk : W p l e R s m args below meth c H locs cells slots Q (F0 m (pc + 1) ls (.null :: rest))) : W p l e R s m args below meth c H locs cells slots Q (F0 m pc ls (.int (nI j) :: .ref a :: rest)) :=
  wd_aldq X hK hw ha t0 ht (vp_in_nI hj hn) hdg (by rw [nI_clamp (Nat.lt_trans hj hn), hq]; exact kk)
theorem wd_iald (X : CallFix p m c cc nL s args Ts own) (hK : va_K D cl tys s) (hw : wd_I D cl A H0 f H locs) {cA : ClassId} {n : Nat} {g : Nat → Int32} (ha : f a = some (.inl (cA, n, .inl g))) (t0 : Nat) (ht : tys[t0]? = some (cA, .int)) {i : Int32} (hin : vp_in i n) (hdg : decode cc pc = .ok (.iaload, 1))
    (kk : W p l e R s m args below meth c H locs cells slots Q (F0 m (pc + 1) ls (.int (g i.toNatClampNeg) :: rest))) : W p l e R s m args below meth c H locs cells slots Q (F0 m pc ls (.int i :: .ref a :: rest)) :=
  va_iald X.1 X.2.1 hK (hw.1.one ha) 0 t0 rfl ht hin hdg kk
theorem wd_zald (X : CallFix p m c cc nL s args Ts own) (hK : va_K D cl tys s) (hw : wd_I D cl A H0 f H locs) {cA : ClassId} {n : Nat} {g : Nat → Int32} (ha : f a = some (.inl (cA, n, .inl g))) (t0 : Nat) (ht : tys[t0]? = some (cA, .boolean)) {i : Int32} (hin : vp_in i n) (hdg : decode cc pc = .ok (.baload, 1))
    (kk : W p l e R s m args below meth c H locs cells slots Q (F0 m (pc + 1) ls (.int (g i.toNatClampNeg) :: rest))) : W p l e R s m args below meth c H locs cells slots Q (F0 m pc ls (.int i :: .ref a :: rest)) :=
  va_zald X.1 X.2.1 hK (hw.1.one ha) 0 t0 rfl ht hin hdg kk
theorem wd_lald (X : CallFix p m c cc nL s args Ts own) (hK : va_K D cl tys s) (hw : wd_I D cl A H0 f H locs) {cA : ClassId} {n : Nat} {g : Nat → Int64} (ha : f a = some (.inl (cA, n, .inr (.inl g)))) (t0 : Nat) (ht : tys[t0]? = some (cA, .long)) {i : Int32} (hin : vp_in i n) (hdg : decode cc pc = .ok (.laload, 1))
    (kk : W p l e R s m args below meth c H locs cells slots Q (F0 m (pc + 1) ls (.long (g i.toNatClampNeg) :: rest))) : W p l e R s m args below meth c H locs cells slots Q (F0 m pc ls (.int i :: .ref a :: rest)) :=
  va_lald X.1 X.2.1 hK (hw.1.one ha) 0 t0 rfl ht hin hdg kk
theorem wd_iast (X : CallFix p m c cc nL s args Ts own) (hK : va_K D cl tys s) (hw : wd_I D cl A H0 f H locs) {cA : ClassId} {n : Nat} {g : Nat → Int32} (ha : f a = some (.inl (cA, n, .inl g))) (t0 : Nat) (ht : tys[t0]? = some (cA, .int)) {i x : Int32} (hin : vp_in i n) (hdg : decode cc pc = .ok (.iastore, 1))
    (kk : ∀ (f1 : wd_M) (H1 : Heap) (locs1 : List Loc), f1 = wd_up f a (.inl (cA, n, .inl (upd g i.toNatClampNeg x))) → wd_I D cl A H0 f1 H1 locs1 → W p l e R s m args below meth c H1 locs1 cells slots Q (F0 m (pc + 1) ls rest)) : W p l e R s m args below meth c H locs cells slots Q (F0 m pc ls (.int x :: .int i :: .ref a :: rest)) := by
  refine W.iast X.1 X.2.1 (hw.1 _ _ ha) ((hK.2 t0 _ ht).1 n (fun j => .int (g j))) (fun q => by cases q) (by show ¬ (i < 0 ∨ (arrV _ _ _).slots.size ≤ _); rw [arrV_size]; exact hin) rfl rfl hdg fun H1 e z oq => ?_
  refine kk _ H1 _ rfl (hw.set ha ?_ z oq)
  show H1[a]? = some (vp_cell _ _)
  rw [e]
  rw [vp_cell_i, vp_cell_i, arrV_store]
  congr 2
  funext q
  by_cases hq : q = i.toNatClampNeg
  · subst hq
    simp [updV, upd]
  · simp [updV, upd, hq]
theorem wd_last (X : CallFix p m c cc nL s args Ts own) (hK : va_K D cl tys s) (hw : wd_I D cl A H0 f H locs) {cA : ClassId} {n : Nat} {g : Nat → Int64} (ha : f a = some (.inl (cA, n, .inr (.inl g)))) (t0 : Nat) (ht : tys[t0]? = some (cA, .long)) {i : Int32} {x : Int64} (hin : vp_in i n) (hdg : decode cc pc = .ok (.lastore, 1))
    (kk : ∀ (f1 : wd_M) (H1 : Heap) (locs1 : List Loc), f1 = wd_up f a (.inl (cA, n, .inr (.inl (vp_updL g i.toNatClampNeg x)))) → wd_I D cl A H0 f1 H1 locs1 → W p l e R s m args below meth c H1 locs1 cells slots Q (F0 m (pc + 1) ls rest)) : W p l e R s m args below meth c H locs cells slots Q (F0 m pc ls (.long x :: .int i :: .ref a :: rest)) := by
  refine W.last X.1 X.2.1 (hw.1 _ _ ha) ((hK.2 t0 _ ht).1 n (fun j => .long (g j))) (fun q => by cases q) (by show ¬ (i < 0 ∨ (arrV _ _ _).slots.size ≤ _); rw [arrV_size]; exact hin) rfl rfl hdg fun H1 e z oq => ?_
  refine kk _ H1 _ rfl (hw.set ha ?_ z oq)
  show H1[a]? = some (vp_cell _ _)
  rw [e]
  rw [vp_cell_l, vp_cell_l, arrV_store]
  congr 2
  funext q
  by_cases hq : q = i.toNatClampNeg
  · subst hq
    simp [updV, vp_updL]
  · simp [updV, vp_updL, hq]
theorem wd_astq (X : CallFix p m c cc nL s args Ts own) (hK : va_K D cl tys s) (hw : wd_I D cl A H0 f H locs) {cA : ClassId} {n : Nat} {g : Nat → Option Nat} (ha : f a = some (.inl (cA, n, .inr (.inr (.inr (.inr g)))))) (t0 : Nat) {r : vw_C} (ht : tys[t0]? = some (cA, .object r.1)) {v ci : Nat} {vs : List Value} (hv : f v = some (.inr (ci, vs))) (hc : cl[ci]? = some r) {i : Int32} (hin : vp_in i n) (hdg : decode cc pc = .ok (.aastore, 1))
    (kk : ∀ (f1 : wd_M) (H1 : Heap) (locs1 : List Loc), f1 = wd_up f a (.inl (cA, n, .inr (.inr (.inr (.inr (va_up g i.toNatClampNeg (some v))))))) → wd_I D cl A H0 f1 H1 locs1 → W p l e R s m args below meth c H1 locs1 cells slots Q (F0 m (pc + 1) ls rest)) : W p l e R s m args below meth c H locs cells slots Q (F0 m pc ls (.ref v :: .int i :: .ref a :: rest)) := by
  have hlt : i.toNatClampNeg < n := Nat.not_le.mp fun q => hin (Or.inr q)
  have h0 : ¬ i < 0 := fun q => hin (Or.inl q)
  obtain ⟨r', hr', cellV, g1, g2, g3, -⟩ := hw.1 _ _ hv
  have hcls := (hK.1 ci r hc).2
  obtain ⟨kA, comp, k1, k2, k3, -⟩ := (hK.2 t0 _ ht).2
  have hcomp : comp = D.1 ci := Option.some.inj (k3.symm.trans hcls.1)
  subst hcomp
  obtain ⟨kC, hkC, -⟩ := hcls.2
  refine W.aast X.1 X.2.1 (hw.1 _ _ ha) (fun q h => by cases h) (fun h => by cases h) k1 k2 rfl hkC ⟨h0, by show _ < (arrV _ _ _).slots.size; rw [arrV_size]; exact hlt⟩ g1 (fun q h => by rw [g3] at h; cases h) (by rw [g2]; exact hkC) (by rw [g2]; exact va_assign hcls) rfl rfl hdg fun H1 e z oq => ?_
  refine kk _ H1 _ rfl (hw.set ha ?_ z oq)
  show H1[a]? = some (vp_cell _ _)
  rw [e]
  rw [vp_cell_q, vp_cell_q, arrV_store]
  congr 2
  funext q
  by_cases hq : q = i.toNatClampNeg
  · subst hq
    simp [updV, va_up, va_rf]
  · simp [updV, va_up, hq]
theorem wd_astS (X : CallFix p m c cc nL s args Ts own) (hK : va_K D cl tys s) (hw : wd_I D cl A H0 f H locs) {cA : ClassId} {n : Nat} {g : Nat → Option Nat} (ha : f a = some (.inl (cA, n, .inr (.inr (.inr (.inr g)))))) (t0 : Nat) {r : vw_C} (ht : tys[t0]? = some (cA, .object r.1)) {v ci : Nat} {vs : List Value} (hv : f v = some (.inr (ci, vs))) (hc : cl[ci]? = some r) {j : Nat} (hj : j < n) (hn : n < 2 ^ 31) (hdg : decode cc pc = .ok (.aastore, 1))
    (kk : ∀ (f1 : wd_M) (H1 : Heap) (locs1 : List Loc), f1 = wd_up f a (.inl (cA, n, .inr (.inr (.inr (.inr (va_up g j (some v))))))) → wd_I D cl A H0 f1 H1 locs1 → W p l e R s m args below meth c H1 locs1 cells slots Q (F0 m (pc + 1) ls rest)) : W p l e R s m args below meth c H locs cells slots Q (F0 m pc ls (.ref v :: .int (nI j) :: .ref a :: rest)) :=
  wd_astq X hK hw ha t0 ht hv hc (vp_in_nI hj hn) hdg (fun f1 H1 locs1 e1 => by rw [nI_clamp (Nat.lt_trans hj hn)] at e1; exact kk f1 H1 locs1 e1)
theorem wd_new (X : CallFix p m c cc nL s args Ts own) (hK : va_K D cl tys s) (hw : wd_I D cl A H0 f H locs) {C : String} {T : u_T} {N ci index : Nat} (hin : ∀ w ∈ u_ws C T N, w ∈ Ts) (ty : Nat → FieldType) (hty : ∀ k, k < N → parseFieldDescriptor (T k).2.2.1 = some (ty k)) (hcl : Cond.classLink own index C ∈ Ts) (hinst : Cond.instantiable C N ∈ Ts) (hini : Cond.initialized C ∈ Ts) (hc : cl[ci]? = some (C, T, N)) {fs : List Value} (hfs : ∀ j, j < N → defaultValue (ty j) = vp_V fs j) (hcells : cells + 1 ≤ R.cells) (hslots : slots + N ≤ R.slots) (hdg : decode cc pc = .ok (.new index, 3))
    (kk : ∀ (q : Nat) (f1 : wd_M) (H1 : Heap), q = H.size → f q = none → f1 = wd_up f q (.inr (ci, fs)) → wd_I D cl A H0 f1 H1 locs → W p l e R s m args below meth c H1 locs (cells + 1) (slots + N) Q (F0 m (pc + 3) ls (.ref q :: rest))) : W p l e R s m args below meth c H locs cells slots Q (F0 m pc ls rest) := by
  have hKn := hK.1 ci _ hc
  obtain ⟨hexec, hb, hml, hown, hts⟩ := X
  refine W.newcK hexec hb hown (hts _ hcl) (hts _ hinst) (hts _ hini) rfl hdg hcells hslots hKn.2.1 rfl fun H1 kC hkC e1 z1 o1 => ?_
  exact kk H.size _ H1 rfl (hw.1.fresh (Nat.le_refl _)) rfl (hw.push ⟨_, hc, (u_born ty hts hin hKn hkC e1 hty).to hfs⟩ z1 o1)
theorem wd_newq (X : CallFix p m c cc nL s args Ts own) (hK : va_K D cl tys s) (hw : wd_I D cl A H0 f H locs) {C : String} {index : Nat} (hclink : Cond.classLink own index C ∈ Ts) (hover : va_AO C s) (t0 : Nat) {cA : ClassId} (ht : tys[t0]? = some (cA, .object C)) {n : Int32} {N' : Nat} (hn : ¬ n < 0) (hN : n.toNatClampNeg = N') (hbytes : N' * 4 ≤ 536870912) (hcells : cells + 1 ≤ R.cells) (hslots : slots + N' ≤ R.slots) (hdg : decode cc pc = .ok (.anewarray index, 3))
    (kk : ∀ (q : Nat) (f1 : wd_M) (H1 : Heap), q = H.size → f q = none → f1 = wd_up f q (.inl (cA, N', .inr (.inr (.inr (.inr (fun _ => none)))))) → wd_I D cl A H0 f1 H1 locs → W p l e R s m args below meth c H1 locs (cells + 1) (slots + N') Q (F0 m (pc + 3) ls (.ref q :: rest))) : W p l e R s m args below meth c H locs cells slots Q (F0 m pc ls (.int n :: rest)) := by
  subst hN
  obtain ⟨hexec, hb, hml, hown, hts⟩ := X
  refine W.anew hexec hb hown (hts _ hclink) (va_AO.use hover) rfl hdg rfl hn hbytes hcells hslots fun cB kA comp f1 f2 f3 f4 => ?_
  obtain ⟨kA', comp', k1, k2, k3, k4⟩ := (hK.2 t0 _ ht).2
  have hcc : cB = cA := Option.some.inj (f1.symm.trans k4)
  subst hcc
  generalize hH1 : H.push ({ cls := cB, slots := Array.replicate n.toNatClampNeg .null, vm := .none } : Cell) = H1
  have z1 : H1.size = H.size + 1 := by rw [← hH1, Array.size_push]
  have e1 : H1[H.size]? = some (arrV cB n.toNatClampNeg (fun _ => .null)) := by rw [← hH1, Array.getElem?_push_size, ← arrV_new]
  have o1 : ∀ q : Nat, q < H.size → H1[q]? = H[q]? := fun q hq => by rw [← hH1, Array.getElem?_push, if_neg (Nat.ne_of_lt hq)]
  refine kk H.size _ H1 rfl (hw.1.fresh (Nat.le_refl _)) rfl (hw.push ?_ z1 o1)
  show H1[H.size]? = some (vp_cell _ _)
  rw [vp_cell_q]
  exact e1
theorem wd_newa (X : CallFix p m c cc nL s args Ts own) (hK : va_K D cl tys s) (hw : wd_I D cl A H0 f H locs) {atype : ArrayType} {ty : FieldType} (hty : newarray.typeOf atype = ty) (harr : Cond.arrayClass ty ∈ Ts) (t0 : Nat) {cA : ClassId} (ht : tys[t0]? = some (cA, ty)) (hRA : va_RA s cA ty → s.vm.findClass ("[" ++ ty.toString) = some cA) {n : Int32} {N' : Nat} {a0 : vp_A} (ha0 : vp_cell cA a0 = arrV cA N' (fun _ => defaultValue ty)) (hn : ¬ n < 0) (hN : n.toNatClampNeg = N') (hbytes : N' * componentBytes ty ≤ 536870912) (hcells : cells + 1 ≤ R.cells) (hslots : slots + N' ≤ R.slots) (hdg : decode cc pc = .ok (.newarray atype, 2))
    (kk : ∀ (q : Nat) (f1 : wd_M) (H1 : Heap), q = H.size → f q = none → f1 = wd_up f q (.inl (cA, a0)) → wd_I D cl A H0 f1 H1 locs → W p l e R s m args below meth c H1 locs (cells + 1) (slots + N') Q (F0 m (pc + 2) ls (.ref q :: rest))) : W p l e R s m args below meth c H locs cells slots Q (F0 m pc ls (.int n :: rest)) := by
  subst hty
  obtain ⟨hexec, hb, hml, hown, hts⟩ := X
  refine va_newaK hexec hb (hts _ harr) rfl hdg rfl hn hN hbytes hcells hslots rfl fun H1 cB e1 z1 o1 hAr hNm => ?_
  have hcc : cB = cA := Option.some.inj (hNm.symm.trans (hRA (hK.2 t0 _ ht).2))
  subst hcc
  refine kk H.size _ H1 rfl (hw.1.fresh (Nat.le_refl _)) rfl (hw.push ?_ z1 o1)
  show H1[H.size]? = some (vp_cell _ _)
  rw [ha0]
  exact e1
end WDR
