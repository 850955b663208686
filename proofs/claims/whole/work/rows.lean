section
/-! MAP WORLDS: a side of the heap as a partial map from addresses to cells; contracts speak of the whole map of their side. -/
abbrev wd_M : Type := Nat → Option va_E
def wd_up (f : wd_M) (a : Nat) (e : va_E) : wd_M := fun q => if q = a then some e else f q
theorem wd_us {f : wd_M} {a : Nat} {e : va_E} : wd_up f a e a = some e := by simp [wd_up]
theorem wd_un {f : wd_M} {a q : Nat} {e : va_E} (h : q ≠ a) : wd_up f a e q = f q := by simp [wd_up, h]
def wd_P (D : va_G) (cl : List vw_C) (f : wd_M) (H : Heap) : Prop := ∀ (a : Nat) (e : va_E), f a = some e → va_at D cl (a, e) H
def wd_I (D : va_G) (cl : List vw_C) (A : Nat → Prop) (H0 : Heap) (f : wd_M) (H : Heap) (locs : List Loc) : Prop := wd_P D cl f H ∧ va_S A H0 H locs ∧ (∀ q : Nat, f q ≠ none → A q) ∧ ∀ q : Nat, H0.size ≤ q → A q
def wd_A (f : wd_M) (sz : Nat) : Nat → Prop := fun q => f q ≠ none ∨ sz ≤ q
def wd_pre (D : va_G) (cl : List vw_C) (tys : List (ClassId × FieldType)) (f : wd_M) (U : State) : Prop := wd_P D cl f U.heap ∧ va_K D cl tys U
def wd_preZ (D : va_G) (cl : List vw_C) (tys : List (ClassId × FieldType)) (f : wd_M) (sz : Nat) (U : State) : Prop := U.heap.size = sz ∧ wd_P D cl f U.heap ∧ va_K D cl tys U
/-- the arrays of references that a constructor makes -/
def wd_ao (C1 C2 : String) (U : State) : Prop := va_AO C1 U ∧ va_AO C2 U
def wd_preA (C1 C2 : String) (D : va_G) (cl : List vw_C) (tys : List (ClassId × FieldType)) (f : wd_M) (sz : Nat) (U : State) : Prop := wd_ao C1 C2 U ∧ wd_preZ D cl tys f sz U
def wd_B (D : va_G) (cl : List vw_C) (f : wd_M) (sz : Nat) (f' : wd_M) (t : State) : Prop := wd_P D cl f' t.heap ∧ ∀ q : Nat, f' q ≠ none → wd_A f sz q
section WDP
variable {D : va_G} {cl : List vw_C} {f : wd_M} {H H1 H0 : Heap} {a : Nat} {e e0 : va_E} {A : Nat → Prop} {locs : List Loc}
theorem wd_P.one (h : wd_P D cl f H) (ha : f a = some e) : va_P D cl [(a, e)] H := by
  intro k q hk
  have hz : k < 1 := (List.getElem?_eq_some_iff.mp hk).1
  rw [show k = 0 by omega] at hk
  cases hk
  exact h a e ha
theorem wd_P.lt (h : wd_P D cl f H) (ha : f a = some e) : a < H.size := (h a e ha).lt
theorem wd_P.fresh (h : wd_P D cl f H) (ha : H.size ≤ a) : f a = none := by
  cases hf : f a with
  | none => rfl
  | some e => exact absurd (h.lt hf) (by omega)
theorem wd_P.set (h : wd_P D cl f H) (he : va_at D cl (a, e) H1) (oq : ∀ q : Nat, q ≠ a → H1[q]? = H[q]?) : wd_P D cl (wd_up f a e) H1 := by
  intro q x hx
  by_cases hq : q = a
  · subst hq
    rw [wd_us] at hx
    cases hx
    exact he
  · rw [wd_un hq] at hx
    exact (h q x hx).kept (oq q hq)
theorem wd_P.push (h : wd_P D cl f H) (he : va_at D cl (H.size, e) H1) (oq : ∀ q : Nat, q < H.size → H1[q]? = H[q]?) : wd_P D cl (wd_up f H.size e) H1 := by
  intro q x hx
  by_cases hq : q = H.size
  · subst hq
    rw [wd_us] at hx
    cases hx
    exact he
  · rw [wd_un hq] at hx
    exact (h q x hx).kept (oq q (h.lt hx))
theorem wd_I.set {k : Nat} (h : wd_I D cl A H0 f H locs) (ha : f a = some e0) (he : va_at D cl (a, e) H1) (z : H1.size = H.size) (oq : ∀ q : Nat, q ≠ a → H1[q]? = H[q]?) : wd_I D cl A H0 (wd_up f a e) H1 (locs ++ [⟨a, k⟩]) := by
  have hAa : A a := h.2.2.1 a (by rw [ha]; exact fun x => by cases x)
  refine ⟨h.1.set he oq, h.2.1.put z oq hAa, fun q hq => ?_, h.2.2.2⟩
  by_cases hqa : q = a
  · subst hqa
    exact hAa
  · rw [wd_un hqa] at hq
    exact h.2.2.1 q hq
theorem wd_I.push (h : wd_I D cl A H0 f H locs) (he : va_at D cl (H.size, e) H1) (z : H1.size = H.size + 1) (oq : ∀ q : Nat, q < H.size → H1[q]? = H[q]?) : wd_I D cl A H0 (wd_up f H.size e) H1 locs := by
  have hAa : A H.size := h.2.2.2 _ h.2.1.1
  refine ⟨h.1.push he oq, ⟨Nat.le_trans h.2.1.1 (by omega), fun x h1 h2 => (oq x (Nat.lt_of_lt_of_le h1 h.2.1.1)).trans (h.2.1.2.1 x h1 h2), h.2.1.2.2⟩, fun q hq => ?_, h.2.2.2⟩
  by_cases hqa : q = H.size
  · subst hqa
    exact hAa
  · rw [wd_un hqa] at hq
    exact h.2.2.1 q hq
theorem wd_I.start {s : State} (h : wd_P D cl f s.heap) : wd_I D cl (wd_A f s.heap.size) s.heap f s.heap [] := ⟨h, va_S.rf, fun _ hq => Or.inl hq, fun _ hq => Or.inr hq⟩
theorem wd_I.sub (h : wd_I D cl A H0 f H locs) {q : Nat} (hq : wd_A f H.size q) : A q := by
  rcases hq with hq | hq
  · exact h.2.2.1 q hq
  · exact h.2.2.2 q (Nat.le_trans h.2.1.1 hq)
theorem wd_ne {b : Nat} {ci cj : Nat} {fs gs : List Value} (ha : f a = some (.inr (ci, fs))) (hb : f b = some (.inr (cj, gs))) (h : ci ≠ cj) : a ≠ b := by
  intro q
  subst q
  rw [ha] at hb
  cases hb
  exact h rfl
theorem wd_neA {b : Nat} {ci : Nat} {fs : List Value} {x : ClassId × vp_A} (ha : f a = some (.inr (ci, fs))) (hb : f b = some (.inl x)) : a ≠ b := by
  intro q
  subst q
  rw [ha] at hb
  cases hb
theorem wd_neF {b : Nat} (ha : f a = some e) (hb : f b = none) : a ≠ b := by
  intro q
  subst q
  rw [ha] at hb
  cases hb
end WDP
theorem wd_blind {D : va_G} {cl : List vw_C} {tys : List (ClassId × FieldType)} {f : wd_M} {av : List Value} : FrameBlind (va_Pc av (wd_pre D cl tys f)) := fun a U g mk q => ⟨q.1, q.2.1, va_K.moved (u := U) (U := U.calling g mk a) (Vm.Alike.refl U.vm) q.2.2⟩
theorem wd_blindZ {D : va_G} {cl : List vw_C} {tys : List (ClassId × FieldType)} {f : wd_M} {sz : Nat} {av : List Value} : FrameBlind (va_Pc av (wd_preZ D cl tys f sz)) := fun a U g mk q => ⟨q.1, q.2.1, q.2.2.1, va_K.moved (u := U) (U := U.calling g mk a) (Vm.Alike.refl U.vm) q.2.2.2⟩
theorem wd_blindA {C1 C2 : String} {D : va_G} {cl : List vw_C} {tys : List (ClassId × FieldType)} {f : wd_M} {sz : Nat} {av : List Value} : FrameBlind (va_Pc av (wd_preA C1 C2 D cl tys f sz)) := fun a U g mk q => ⟨q.1, ⟨va_AO.moved (u := U) (U := U.calling g mk a) (Vm.Alike.refl U.vm) q.2.1.1, va_AO.moved (u := U) (U := U.calling g mk a) (Vm.Alike.refl U.vm) q.2.1.2⟩, q.2.2.1, q.2.2.2.1, va_K.moved (u := U) (U := U.calling g mk a) (Vm.Alike.refl U.vm) q.2.2.2.2⟩
/-- a contract's beginning: the locals, the words, the code -/
theorem wd_met {l : Launch} {y : MethodName} {Ts : List Cond} {rm : Room} {Qc : Array Value → State → Outcome → State → Prop} {mc ms : Nat} {free : Addr → Prop} {cc : ByteArray} {maxL : Nat} {ret : Option FieldType} {av : List Value} {pre : State → Prop} {own : String}
    (hy : plainName y.cls = true) (ho : y.cls = own) (hlen : (lg_sl av).length ≤ maxL)
    (body : ∀ (p : Program) (e : Env) (s : State) (m : MethodId) (below : List Frame) (meth : Method) (c : Code), CallFix p m c cc maxL s av.toArray Ts own → meth.sig.returnType = ret → meth.locks = false → meth.name = y.name → pre s → ∀ ls : Array Slot, lv_has ls maxL (lv_args 0 av) →
      W p l e rm s m av.toArray below meth c s.heap [] 0 0 (MQ below Qc av.toArray s mc ms free) (F0 m 0 ls [])) : Met l y (.code y cc maxL ret :: Ts) rm (va_Pc av pre) Qc mc ms free := by
  refine Met.ofW (cc := cc) (maxL := maxL) (ret := ret) hy rfl ?_
  intro p e s m args below meth c s₁ B hml hv
  obtain ⟨rfl, hpre⟩ := hv
  have hts := atoms_spec (ws := .code y cc maxL ret :: Ts) B.pre
  have hown : s.vm.findClass own = some m.cls := by rw [← ho]; exact findClass_of_methodNamed B.named
  rw [lg_entry_eq]
  exact body p e s m below meth c ⟨B.exec, B.bytes, hml, hown, fun w h => hts w (List.mem_cons_of_mem _ h)⟩ B.returns B.notSynchronized (name_of_methodNamed B.named B.method).1 hpre _ (lv_entry av hlen)
section WDR
variable {p : Program} {l : Launch} {e : Env} {R : Room} {s : State} {m : MethodId} {args : Array Value} {below : List Frame} {meth : Method} {c : Code} {H : Heap} {locs : List Loc} {cells slots : Nat} {Q : State → Prop}
variable {cc : ByteArray} {pc nL : Nat} {ls : Array Slot} {rest st0 : List Value} {D : va_G} {cl : List vw_C} {A : Nat → Prop} {a : Nat} {tys : List (ClassId × FieldType)} {H0 : Heap} {f : wd_M} {own : String} {Ts : List Cond}
theorem wd_get (X : CallFix p m c cc nL s args Ts own) (hK : va_K D cl tys s) (hw : wd_I D cl A H0 f H locs) {ref C : String} {T : u_T} {N ci index : Nat} (hin : ∀ w ∈ u_ws C T N, w ∈ Ts) {fs : List Value} (ha : f a = some (.inr (ci, fs))) (hc : cl[ci]? = some (C, T, N)) (k : Nat) (hk : k < N) (hlink : Cond.fieldLink own index ref (T k).2.1 (T k).2.2.1 ∈ Ts) (hsame : ∀ x, s.fieldFound? (T k).1 (T k).2.1 (T k).2.2.1 = some x → s.fieldFound? ref (T k).2.1 (T k).2.2.1 = some x) {v : Value} (hv : fs[k]? = some v) (hdg : decode cc pc = .ok (.getfield index, 3))
    (kk : W p l e R s m args below meth c H locs cells slots Q (F0 m (pc + 3) ls (v :: rest))) : W p l e R s m args below meth c H locs cells slots Q (F0 m pc ls (.ref a :: rest)) :=
  va_get X.1 X.2.1 X.2.2.2.2 hin X.2.2.2.1 hK (hw.1.one ha) 0 rfl hc k hk (X.2.2.2.2 _ hlink) hsame hv hdg kk
theorem wd_put (X : CallFix p m c cc nL s args Ts own) (hK : va_K D cl tys s) (hw : wd_I D cl A H0 f H locs) {ref C : String} {T : u_T} {N ci index : Nat} (hin : ∀ w ∈ u_ws C T N, w ∈ Ts) (ty0 : Nat → FieldType) (hty : ∀ k, k < N → parseFieldDescriptor (T k).2.2.1 = some (ty0 k)) (hnm : ∀ a, a < N → ∀ b, b < N → a ≠ b → (T a).2.1 ≠ (T b).2.1) {fs : List Value} (ha : f a = some (.inr (ci, fs))) (hc : cl[ci]? = some (C, T, N)) (k : Nat) (hk : k < N) (hlink : Cond.fieldLink own index ref (T k).2.1 (T k).2.2.1 ∈ Ts) (hsame : ∀ x, s.fieldFound? (T k).1 (T k).2.1 (T k).2.2.1 = some x → s.fieldFound? ref (T k).2.1 (T k).2.2.1 = some x) (hfin : (T k).2.2.2 = false) {ty : FieldType} {v : Value} (hd : parseFieldDescriptor (T k).2.2.1 = some ty) (hn : narrow ty v = v) (hfit : fits ty v = true) (hl : k < fs.length) (hdg : decode cc pc = .ok (.putfield index, 3))
    (kk : ∀ (f1 : wd_M) (H1 : Heap) (locs1 : List Loc), f1 = wd_up f a (.inr (ci, fs.set k v)) → wd_I D cl A H0 f1 H1 locs1 → W p l e R s m args below meth c H1 locs1 cells slots Q (F0 m (pc + 3) ls rest)) : W p l e R s m args below meth c H locs cells slots Q (F0 m pc ls (v :: .ref a :: rest)) := by
  obtain ⟨hexec, hb, hml, hown, hts⟩ := X
  have hap := va_apart (own := own) hts hin ty0 hty hnm hK hc
  obtain ⟨r, h1, cell, q1, q2, q3, q4⟩ := hw.1 _ _ ha
  have hr : r = (C, T, N) := Option.some.inj (h1.symm.trans hc)
  subst hr
  obtain ⟨hS, hfc, kC, hkC, hkind⟩ := hK.1 ci _ hc
  obtain ⟨cf, kf, fi, fd, hi, hsl⟩ := hS k hk
  have hlay := hts _ (hin _ (u_in_lay hk))
  unfold u_lay at hlay
  rw [if_neg (by rw [hfin]; decide)] at hlay
  have hst := (u_facts hfc hkC (u_lays hts hin hk) hi).1
  have h6 := u_store hfc hkC hkind hlay hi hd hn hfit
  refine W.putK hexec hb (f := fd) ⟨hown, hts _ hlink, ⟨_, _, _, hsame _ hi⟩, hst⟩ (by rw [q2]; exact h6) q1 q3 (by rw [hsl]; exact k2_hasslot (q4 k hk)) rfl rfl hdg fun H' e1 e2 e3 => ?_
  rw [hsl] at e1 ⊢
  exact kk _ H' _ rfl (hw.set ha ⟨_, hc, t_OB.to (V := updV (vp_V fs) k v) ⟨_, e1, q2, q3, t_set q4 hap hk v⟩ (fun j _ => vp_updV_set hl v j)⟩ e2 e3)
theorem wd_putF (X : CallFix p m c cc nL s args Ts own) (hK : va_K D cl tys s) (hw : wd_I D cl A H0 f H locs) (hin2 : meth.name = "<init>") {ref C : String} {T : u_T} {N ci index : Nat} (hin : ∀ w ∈ u_ws C T N, w ∈ Ts) (ty0 : Nat → FieldType) (hty : ∀ k, k < N → parseFieldDescriptor (T k).2.2.1 = some (ty0 k)) (hnm : ∀ a, a < N → ∀ b, b < N → a ≠ b → (T a).2.1 ≠ (T b).2.1) {fs : List Value} (ha : f a = some (.inr (ci, fs))) (hc : cl[ci]? = some (C, T, N)) (k : Nat) (hk : k < N) (hlink : Cond.fieldLink own index ref (T k).2.1 (T k).2.2.1 ∈ Ts) (hsame : ∀ x, s.fieldFound? (T k).1 (T k).2.1 (T k).2.2.1 = some x → s.fieldFound? ref (T k).2.1 (T k).2.2.1 = some x) (hfin : (T k).2.2.2 = true) (hdecl : (T k).1 = own) {ty : FieldType} {v : Value} (hd : parseFieldDescriptor (T k).2.2.1 = some ty) (hn : narrow ty v = v) (hfit : fits ty v = true) (hl : k < fs.length) (hdg : decode cc pc = .ok (.putfield index, 3))
    (kk : ∀ (f1 : wd_M) (H1 : Heap) (locs1 : List Loc), f1 = wd_up f a (.inr (ci, fs.set k v)) → wd_I D cl A H0 f1 H1 locs1 → W p l e R s m args below meth c H1 locs1 cells slots Q (F0 m (pc + 3) ls rest)) : W p l e R s m args below meth c H locs cells slots Q (F0 m pc ls (v :: .ref a :: rest)) := by
  obtain ⟨hexec, hb, hml, hown, hts⟩ := X
  have hap := va_apart (own := own) hts hin ty0 hty hnm hK hc
  obtain ⟨r, h1, cell, q1, q2, q3, q4⟩ := hw.1 _ _ ha
  have hr : r = (C, T, N) := Option.some.inj (h1.symm.trans hc)
  subst hr
  obtain ⟨hS, hfc, kC, hkC, hkind⟩ := hK.1 ci _ hc
  obtain ⟨cf, kf, fi, fd, hi, hsl⟩ := hS k hk
  have hlay := hts _ (hin _ (u_in_lay hk))
  unfold u_lay at hlay
  rw [if_pos hfin] at hlay
  have hst := (u_facts hfc hkC (u_lays hts hin hk) hi).1
  have hcf : m.cls = cf := by
    obtain ⟨_, _, c', _, _, _, -, -, hf', -, -, -, hown2, -⟩ := Cond.laysFinal_spec hlay
    have e1 : c' = cf := by have := hi.symm.trans hf'; simp at this; exact this.1.symm
    rw [hdecl] at hown2
    rw [← e1]; exact Option.some.inj (hown.symm.trans hown2)
  have h6 := u_fits hfc hkC hkind (Or.inr hlay) hi hd hn hfit
  refine W.putFinK hexec hb hown (hts _ hlink) (hsame _ hi) hst hcf hin2 (by rw [q2]; exact h6) q1 q3 (by rw [hsl]; exact k2_hasslot (q4 k hk)) rfl rfl hdg fun H' e1 e2 e3 => ?_
  rw [hsl] at e1 ⊢
  exact kk _ H' _ rfl (hw.set ha ⟨_, hc, t_OB.to (V := updV (vp_V fs) k v) ⟨_, e1, q2, q3, t_set q4 hap hk v⟩ (fun j _ => vp_updV_set hl v j)⟩ e2 e3)
theorem wd_alen (X : CallFix p m c cc nL s args Ts own) (hK : va_K D cl tys s) (hw : wd_I D cl A H0 f H locs) {cA : ClassId} {x : vp_A} (ha : f a = some (.inl (cA, x))) (t0 : Nat) {ty : FieldType} (ht : tys[t0]? = some (cA, ty)) {v : Int32} (hv : Int32.ofNat x.1 = v) (hdg : decode cc pc = .ok (.arraylength, 1))
    (kk : W p l e R s m args below meth c H locs cells slots Q (F0 m (pc + 1) ls (.int v :: rest))) : W p l e R s m args below meth c H locs cells slots Q (F0 m pc ls (.ref a :: rest)) :=
  va_alen X.1 X.2.1 hK (hw.1.one ha) 0 t0 rfl ht hv hdg kk
theorem wd_aldq (X : CallFix p m c cc nL s args Ts own) (hK : va_K D cl tys s) (hw : wd_I D cl A H0 f H locs) {cA : ClassId} {n : Nat} {g : Nat → Option Nat} (ha : f a = some (.inl (cA, n, .inr (.inr (.inr (.inr g)))))) (t0 : Nat) {C : String} (ht : tys[t0]? = some (cA, .object C)) {i : Int32} (hin : vp_in i n) (hdg : decode cc pc = .ok (.aaload, 1))
    (kk : W p l e R s m args below meth c H locs cells slots Q (F0 m (pc + 1) ls (va_rf (g i.toNatClampNeg) :: rest))) : W p l e R s m args below meth c H locs cells slots Q (F0 m pc ls (.int i :: .ref a :: rest)) :=
  va_aldq X.1 X.2.1 hK (hw.1.one ha) 0 t0 rfl ht hin hdg kk
theorem wd_aldS (X : CallFix p m c cc nL s args Ts own) (hK : va_K D cl tys s) (hw : wd_I D cl A H0 f H locs) {cA : ClassId} {n : Nat} {g : Nat → Option Nat} (ha : f a = some (.inl (cA, n, .inr (.inr (.inr (.inr g)))))) (t0 : Nat) {C : String} (ht : tys[t0]? = some (cA, .object C)) {j q : Nat} (hj : j < n) (hn : n < 2 ^ 31) (hq : g j = some q) (hdg : decode cc pc = .ok (.aaload, 1))
    (kk : W p l e R s m args below meth c H locs cells slots Q (F0 m (pc + 1) ls (.ref q :: rest))) : W p l e R s m args below meth c H locs cells slots Q (F0 m pc ls (.int (nI j) :: .ref a :: rest)) :=
  wd_aldq X hK hw ha t0 ht (vp_in_nI hj hn) hdg (by rw [nI_clamp (Nat.lt_trans hj hn), hq]; exact kk)
theorem wd_aldN (X : CallFix p m c cc nL s args Ts own) (hK : va_K D cl tys s) (hw : wd_I D cl A H0 f H locs) {cA : ClassId} {n : Nat} {g : Nat → Option Nat} (ha : f a = some (.inl (cA, n, .inr (.inr (.inr (.inr g)))))) (t0 : Nat) {C : String} (ht : tys[t0]? = some (cA, .object C)) {j : Nat} (hj : j < n) (hn : n < 2 ^ 31) (hq : g j = none) (hdg : decode cc pc = .ok (.aaload, 1))
    (kk : W p l e R s m args below meth c H locs cells slots Q (F0 m (pc + 1) ls (.null :: rest))) : W p l e R s m args below meth c H locs cells slots Q (F0 m pc ls (.int (nI j) :: .ref a :: rest)) :=
  wd_aldq X hK hw ha t0 ht (vp_in_nI hj hn) hdg (by rw [nI_clamp (Nat.lt_trans hj hn), hq]; exact kk)
theorem wd_iald (X : CallFix p m c cc nL s args Ts own) (hK : va_K D cl tys s) (hw : wd_I D cl A H0 f H locs) {cA : ClassId} {n : Nat} {g : Nat → Int32} (ha : f a = some (.inl (cA, n, .inl g))) (t0 : Nat) (ht : tys[t0]? = some (cA, .int)) {i : Int32} (hin : vp_in i n) (hdg : decode cc pc = .ok (.iaload, 1))
    (kk : W p l e R s m args below meth c H locs cells slots Q (F0 m (pc + 1) ls (.int (g i.toNatClampNeg) :: rest))) : W p l e R s m args below meth c H locs cells slots Q (F0 m pc ls (.int i :: .ref a :: rest)) :=
  va_iald X.1 X.2.1 hK (hw.1.one ha) 0 t0 rfl ht hin hdg kk
theorem wd_zald (X : CallFix p m c cc nL s args Ts own) (hK : va_K D cl tys s) (hw : wd_I D cl A H0 f H locs) {cA : ClassId} {n : Nat} {g : Nat → Int32} (ha : f a = some (.inl (cA, n, .inl g))) (t0 : Nat) (ht : tys[t0]? = some (cA, .boolean)) {i : Int32} (hin : vp_in i n) (hdg : decode cc pc = .ok (.baload, 1))
    (kk : W p l e R s m args below meth c H locs cells slots Q (F0 m (pc + 1) ls (.int (g i.toNatClampNeg) :: rest))) : W p l e R s m args below meth c H locs cells slots Q (F0 m pc ls (.int i :: .ref a :: rest)) :=
  va_zald X.1 X.2.1 hK (hw.1.one ha) 0 t0 rfl ht hin hdg kk
theorem wd_lald (X : CallFix p m c cc nL s args Ts own) (hK : va_K D cl tys s) (hw : wd_I D cl A H0 f H locs) {cA : ClassId} {n : Nat} {g : Nat → Int64} (ha : f a = some (.inl (cA, n, .inr (.inl g)))) (t0 : Nat) (ht : tys[t0]? = some (cA, .long)) {i : Int32} (hin : vp_in i n) (hdg : decode cc pc = .ok (.laload, 1))
    (kk : W p l e R s m args below meth c H locs cells slots Q (F0 m (pc + 1) ls (.long (g i.toNatClampNeg) :: rest))) : W p l e R s m args below meth c H locs cells slots Q (F0 m pc ls (.int i :: .ref a :: rest)) :=
  va_lald X.1 X.2.1 hK (hw.1.one ha) 0 t0 rfl ht hin hdg kk
theorem wd_iast (X : CallFix p m c cc nL s args Ts own) (hK : va_K D cl tys s) (hw : wd_I D cl A H0 f H locs) {cA : ClassId} {n : Nat} {g : Nat → Int32} (ha : f a = some (.inl (cA, n, .inl g))) (t0 : Nat) (ht : tys[t0]? = some (cA, .int)) {i x : Int32} (hin : vp_in i n) (hdg : decode cc pc = .ok (.iastore, 1))
    (kk : ∀ (f1 : wd_M) (H1 : Heap) (locs1 : List Loc), f1 = wd_up f a (.inl (cA, n, .inl (upd g i.toNatClampNeg x))) → wd_I D cl A H0 f1 H1 locs1 → W p l e R s m args below meth c H1 locs1 cells slots Q (F0 m (pc + 1) ls rest)) : W p l e R s m args below meth c H locs cells slots Q (F0 m pc ls (.int x :: .int i :: .ref a :: rest)) := by
  refine W.iast X.1 X.2.1 (hw.1 _ _ ha) ((hK.2 t0 _ ht).1 n (fun j => .int (g j))) (fun q => by cases q) (by show ¬ (i < 0 ∨ (arrV _ _ _).slots.size ≤ _); rw [arrV_size]; exact hin) rfl rfl hdg fun H1 e z oq => ?_
  refine kk _ H1 _ rfl (hw.set ha ?_ z oq)
  show H1[a]? = some (vp_cell _ _)
  rw [e]
  rw [vp_cell_i, vp_cell_i, arrV_store]
  congr 2
  funext q
  by_cases hq : q = i.toNatClampNeg
  · subst hq
    simp [updV, upd]
  · simp [updV, upd, hq]
theorem wd_last (X : CallFix p m c cc nL s args Ts own) (hK : va_K D cl tys s) (hw : wd_I D cl A H0 f H locs) {cA : ClassId} {n : Nat} {g : Nat → Int64} (ha : f a = some (.inl (cA, n, .inr (.inl g)))) (t0 : Nat) (ht : tys[t0]? = some (cA, .long)) {i : Int32} {x : Int64} (hin : vp_in i n) (hdg : decode cc pc = .ok (.lastore, 1))
    (kk : ∀ (f1 : wd_M) (H1 : Heap) (locs1 : List Loc), f1 = wd_up f a (.inl (cA, n, .inr (.inl (vp_updL g i.toNatClampNeg x)))) → wd_I D cl A H0 f1 H1 locs1 → W p l e R s m args below meth c H1 locs1 cells slots Q (F0 m (pc + 1) ls rest)) : W p l e R s m args below meth c H locs cells slots Q (F0 m pc ls (.long x :: .int i :: .ref a :: rest)) := by
  refine W.last X.1 X.2.1 (hw.1 _ _ ha) ((hK.2 t0 _ ht).1 n (fun j => .long (g j))) (fun q => by cases q) (by show ¬ (i < 0 ∨ (arrV _ _ _).slots.size ≤ _); rw [arrV_size]; exact hin) rfl rfl hdg fun H1 e z oq => ?_
  refine kk _ H1 _ rfl (hw.set ha ?_ z oq)
  show H1[a]? = some (vp_cell _ _)
  rw [e]
  rw [vp_cell_l, vp_cell_l, arrV_store]
  congr 2
  funext q
  by_cases hq : q = i.toNatClampNeg
  · subst hq
    simp [updV, vp_updL]
  · simp [updV, vp_updL, hq]
theorem wd_astq (X : CallFix p m c cc nL s args Ts own) (hK : va_K D cl tys s) (hw : wd_I D cl A H0 f H locs) {cA : ClassId} {n : Nat} {g : Nat → Option Nat} (ha : f a = some (.inl (cA, n, .inr (.inr (.inr (.inr g)))))) (t0 : Nat) {r : vw_C} (ht : tys[t0]? = some (cA, .object r.1)) {v ci : Nat} {vs : List Value} (hv : f v = some (.inr (ci, vs))) (hc : cl[ci]? = some r) {i : Int32} (hin : vp_in i n) (hdg : decode cc pc = .ok (.aastore, 1))
    (kk : ∀ (f1 : wd_M) (H1 : Heap) (locs1 : List Loc), f1 = wd_up f a (.inl (cA, n, .inr (.inr (.inr (.inr (va_up g i.toNatClampNeg (some v))))))) → wd_I D cl A H0 f1 H1 locs1 → W p l e R s m args below meth c H1 locs1 cells slots Q (F0 m (pc + 1) ls rest)) : W p l e R s m args below meth c H locs cells slots Q (F0 m pc ls (.ref v :: .int i :: .ref a :: rest)) := by
  have hlt : i.toNatClampNeg < n := Nat.not_le.mp fun q => hin (Or.inr q)
  have h0 : ¬ i < 0 := fun q => hin (Or.inl q)
  obtain ⟨r', hr', cellV, g1, g2, g3, -⟩ := hw.1 _ _ hv
  have hcls := (hK.1 ci r hc).2
  obtain ⟨kA, comp, k1, k2, k3, -⟩ := (hK.2 t0 _ ht).2
  have hcomp : comp = D.1 ci := Option.some.inj (k3.symm.trans hcls.1)
  subst hcomp
  obtain ⟨kC, hkC, -⟩ := hcls.2
  refine W.aast X.1 X.2.1 (hw.1 _ _ ha) (fun q h => by cases h) (fun h => by cases h) k1 k2 rfl hkC ⟨h0, by show _ < (arrV _ _ _).slots.size; rw [arrV_size]; exact hlt⟩ g1 (fun q h => by rw [g3] at h; cases h) (by rw [g2]; exact hkC) (by rw [g2]; exact va_assign hcls) rfl rfl hdg fun H1 e z oq => ?_
  refine kk _ H1 _ rfl (hw.set ha ?_ z oq)
  show H1[a]? = some (vp_cell _ _)
  rw [e]
  rw [vp_cell_q, vp_cell_q, arrV_store]
  congr 2
  funext q
  by_cases hq : q = i.toNatClampNeg
  · subst hq
    simp [updV, va_up, va_rf]
  · simp [updV, va_up, hq]
theorem wd_astS (X : CallFix p m c cc nL s args Ts own) (hK : va_K D cl tys s) (hw : wd_I D cl A H0 f H locs) {cA : ClassId} {n : Nat} {g : Nat → Option Nat} (ha : f a = some (.inl (cA, n, .inr (.inr (.inr (.inr g)))))) (t0 : Nat) {r : vw_C} (ht : tys[t0]? = some (cA, .object r.1)) {v ci : Nat} {vs : List Value} (hv : f v = some (.inr (ci, vs))) (hc : cl[ci]? = some r) {j : Nat} (hj : j < n) (hn : n < 2 ^ 31) (hdg : decode cc pc = .ok (.aastore, 1))
    (kk : ∀ (f1 : wd_M) (H1 : Heap) (locs1 : List Loc), f1 = wd_up f a (.inl (cA, n, .inr (.inr (.inr (.inr (va_up g j (some v))))))) → wd_I D cl A H0 f1 H1 locs1 → W p l e R s m args below meth c H1 locs1 cells slots Q (F0 m (pc + 1) ls rest)) : W p l e R s m args below meth c H locs cells slots Q (F0 m pc ls (.ref v :: .int (nI j) :: .ref a :: rest)) :=
  wd_astq X hK hw ha t0 ht hv hc (vp_in_nI hj hn) hdg (fun f1 H1 locs1 e1 => by rw [nI_clamp (Nat.lt_trans hj hn)] at e1; exact kk f1 H1 locs1 e1)
theorem wd_new (X : CallFix p m c cc nL s args Ts own) (hK : va_K D cl tys s) (hw : wd_I D cl A H0 f H locs) {C : String} {T : u_T} {N ci index : Nat} (hin : ∀ w ∈ u_ws C T N, w ∈ Ts) (ty : Nat → FieldType) (hty : ∀ k, k < N → parseFieldDescriptor (T k).2.2.1 = some (ty k)) (hcl : Cond.classLink own index C ∈ Ts) (hinst : Cond.instantiable C N ∈ Ts) (hini : Cond.initialized C ∈ Ts) (hc : cl[ci]? = some (C, T, N)) {fs : List Value} (hfs : ∀ j, j < N → defaultValue (ty j) = vp_V fs j) (hcells : cells + 1 ≤ R.cells) (hslots : slots + N ≤ R.slots) (hdg : decode cc pc = .ok (.new index, 3))
    (kk : ∀ (q : Nat) (f1 : wd_M) (H1 : Heap), q = H.size → f q = none → f1 = wd_up f q (.inr (ci, fs)) → wd_I D cl A H0 f1 H1 locs → W p l e R s m args below meth c H1 locs (cells + 1) (slots + N) Q (F0 m (pc + 3) ls (.ref q :: rest))) : W p l e R s m args below meth c H locs cells slots Q (F0 m pc ls rest) := by
  have hKn := hK.1 ci _ hc
  obtain ⟨hexec, hb, hml, hown, hts⟩ := X
  refine W.newcK hexec hb hown (hts _ hcl) (hts _ hinst) (hts _ hini) rfl hdg hcells hslots hKn.2.1 rfl fun H1 kC hkC e1 z1 o1 => ?_
  exact kk H.size _ H1 rfl (hw.1.fresh (Nat.le_refl _)) rfl (hw.push ⟨_, hc, (u_born ty hts hin hKn hkC e1 hty).to hfs⟩ z1 o1)
theorem wd_newq (X : CallFix p m c cc nL s args Ts own) (hK : va_K D cl tys s) (hw : wd_I D cl A H0 f H locs) {C : String} {index : Nat} (hclink : Cond.classLink own index C ∈ Ts) (hover : va_AO C s) (t0 : Nat) {cA : ClassId} (ht : tys[t0]? = some (cA, .object C)) {n : Int32} {N' : Nat} (hn : ¬ n < 0) (hN : n.toNatClampNeg = N') (hbytes : N' * 4 ≤ 536870912) (hcells : cells + 1 ≤ R.cells) (hslots : slots + N' ≤ R.slots) (hdg : decode cc pc = .ok (.anewarray index, 3))
    (kk : ∀ (q : Nat) (f1 : wd_M) (H1 : Heap), q = H.size → f q = none → f1 = wd_up f q (.inl (cA, N', .inr (.inr (.inr (.inr (fun _ => none)))))) → wd_I D cl A H0 f1 H1 locs → W p l e R s m args below meth c H1 locs (cells + 1) (slots + N') Q (F0 m (pc + 3) ls (.ref q :: rest))) : W p l e R s m args below meth c H locs cells slots Q (F0 m pc ls (.int n :: rest)) := by
  subst hN
  obtain ⟨hexec, hb, hml, hown, hts⟩ := X
  refine W.anew hexec hb hown (hts _ hclink) (va_AO.use hover) rfl hdg rfl hn hbytes hcells hslots fun cB kA comp f1 f2 f3 f4 => ?_
  obtain ⟨kA', comp', k1, k2, k3, k4⟩ := (hK.2 t0 _ ht).2
  have hcc : cB = cA := Option.some.inj (f1.symm.trans k4)
  subst hcc
  generalize hH1 : H.push ({ cls := cB, slots := Array.replicate n.toNatClampNeg .null, vm := .none } : Cell) = H1
  have z1 : H1.size = H.size + 1 := by rw [← hH1, Array.size_push]
  have e1 : H1[H.size]? = some (arrV cB n.toNatClampNeg (fun _ => .null)) := by rw [← hH1, Array.getElem?_push_size, ← arrV_new]
  have o1 : ∀ q : Nat, q < H.size → H1[q]? = H[q]? := fun q hq => by rw [← hH1, Array.getElem?_push, if_neg (Nat.ne_of_lt hq)]
  refine kk H.size _ H1 rfl (hw.1.fresh (Nat.le_refl _)) rfl (hw.push ?_ z1 o1)
  show H1[H.size]? = some (vp_cell _ _)
  rw [vp_cell_q]
  exact e1
theorem wd_newa (X : CallFix p m c cc nL s args Ts own) (hK : va_K D cl tys s) (hw : wd_I D cl A H0 f H locs) {atype : ArrayType} {ty : FieldType} (hty : newarray.typeOf atype = ty) (harr : Cond.arrayClass ty ∈ Ts) (t0 : Nat) {cA : ClassId} (ht : tys[t0]? = some (cA, ty)) (hRA : va_RA s cA ty → s.vm.findClass ("[" ++ ty.toString) = some cA) {n : Int32} {N' : Nat} {a0 : vp_A} (ha0 : vp_cell cA a0 = arrV cA N' (fun _ => defaultValue ty)) (hn : ¬ n < 0) (hN : n.toNatClampNeg = N') (hbytes : N' * componentBytes ty ≤ 536870912) (hcells : cells + 1 ≤ R.cells) (hslots : slots + N' ≤ R.slots) (hdg : decode cc pc = .ok (.newarray atype, 2))
    (kk : ∀ (q : Nat) (f1 : wd_M) (H1 : Heap), q = H.size → f q = none → f1 = wd_up f q (.inl (cA, a0)) → wd_I D cl A H0 f1 H1 locs → W p l e R s m args below meth c H1 locs (cells + 1) (slots + N') Q (F0 m (pc + 2) ls (.ref q :: rest))) : W p l e R s m args below meth c H locs cells slots Q (F0 m pc ls (.int n :: rest)) := by
  subst hty
  obtain ⟨hexec, hb, hml, hown, hts⟩ := X
  refine va_newaK hexec hb (hts _ harr) rfl hdg rfl hn hN hbytes hcells hslots rfl fun H1 cB e1 z1 o1 hAr hNm => ?_
  have hcc : cB = cA := Option.some.inj (hNm.symm.trans (hRA (hK.2 t0 _ ht).2))
  subst hcc
  refine kk H.size _ H1 rfl (hw.1.fresh (Nat.le_refl _)) rfl (hw.push ?_ z1 o1)
  show H1[H.size]? = some (vp_cell _ _)
  rw [ha0]
  exact e1
end WDR
end
section
/-! calls and returns over map worlds -/
section WDC
variable {p : Program} {l : Launch} {e : Env} {R : Room} {s : State} {m : MethodId} {args : Array Value} {below : List Frame} {meth : Method} {c : Code} {H : Heap} {locs : List Loc} {cells slots : Nat} {Q : State → Prop}
variable {cc bytes : ByteArray} {pc nL maxL n index mc ms ci b : Nat} {ls : Array Slot} {As rest st0 fs : List Value} {D : va_G} {cl : List vw_C} {A : Nat → Prop} {tys : List (ClassId × FieldType)} {H0 : Heap} {f : wd_M} {own C : String} {Ts ws : List Cond} {y : MethodName} {ret : Option FieldType} {rm : Room} {q : vw_C}
theorem wd_preV (hK : va_K D cl tys s) (hw : wd_I D cl A H0 f H locs) (hbf : f b = some (.inr (ci, fs))) (hc : cl[ci]? = some q) (hq : q.1 = C) : PreV s H C b (va_Pc (.ref b :: As) (wd_pre D cl tys f)) As :=
  ⟨wd_blind, by subst hq; exact va_recv hK (hw.1.one hbf) hc (q0 := 0) rfl, fun U hU hW => ⟨rfl, by rw [hU]; exact hw.1, va_K.moved hW.alike hK⟩⟩
theorem wd_preVZ (hK : va_K D cl tys s) (hw : wd_I D cl A H0 f H locs) (hbf : f b = some (.inr (ci, fs))) (hc : cl[ci]? = some q) (hq : q.1 = C) : PreV s H C b (va_Pc (.ref b :: As) (wd_preZ D cl tys f H.size)) As :=
  ⟨wd_blindZ, by subst hq; exact va_recv hK (hw.1.one hbf) hc (q0 := 0) rfl, fun U hU hW => ⟨rfl, by rw [hU], by rw [hU]; exact hw.1, va_K.moved hW.alike hK⟩⟩
theorem wd_preS (hK : va_K D cl tys s) (hw : wd_I D cl A H0 f H locs) : PreS s H (va_Pc As (wd_pre D cl tys f)) As :=
  ⟨wd_blind, fun U hU hW => ⟨rfl, by rw [hU]; exact hw.1, va_K.moved hW.alike hK⟩⟩
theorem wd_preSZ (hK : va_K D cl tys s) (hw : wd_I D cl A H0 f H locs) : PreS s H (va_Pc As (wd_preZ D cl tys f H.size)) As :=
  ⟨wd_blindZ, fun U hU hW => ⟨rfl, by rw [hU], by rw [hU]; exact hw.1, va_K.moved hW.alike hK⟩⟩
/-- a reading call, an int answered -/
theorem wd_cvi {post : Int32 → Prop} (X : CallFix p m c cc nL s args Ts own) (hK : va_K D cl tys s) (hw : wd_I D cl A H0 f H locs) (hM : Met l y ws rm (va_Pc (.ref b :: As) (wd_pre D cl tys f)) (vp_Si post) 0 0 (fun _ => False)) (cw : CallW R s args own C index y bytes maxL ret ws rm 0 0 n) (hbf : f b = some (.inr (ci, fs))) (hc : cl[ci]? = some q) (hq : q.1 = C) (hn : As.length = n) (hsize : ls.size = nL) (hst : st0 = As.reverse ++ .ref b :: rest) (hroom : (rest.map fun v => v.category).sum ≤ 8) (hdg : decode cc pc = .ok (.invokevirtual index, 3)) (hf : cells ≤ R.cells ∧ slots ≤ R.slots)
    (kk : ∀ r : Int32, post r → W p l e R s m args below meth c H locs cells slots Q (F0 m (pc + 3) ls (.int r :: rest))) : W p l e R s m args below meth c H locs cells slots Q (F0 m pc ls st0) :=
  vp_callSi (W.runV (g := F0 m pc ls st0) X hM cw (wd_preV hK hw hbf hc hq) rfl hn hsize hst (lv_room hroom) hdg hf) kk
theorem wd_cvl {post : Int64 → Prop} (X : CallFix p m c cc nL s args Ts own) (hK : va_K D cl tys s) (hw : wd_I D cl A H0 f H locs) (hM : Met l y ws rm (va_Pc (.ref b :: As) (wd_pre D cl tys f)) (vp_Sl post) 0 0 (fun _ => False)) (cw : CallW R s args own C index y bytes maxL ret ws rm 0 0 n) (hbf : f b = some (.inr (ci, fs))) (hc : cl[ci]? = some q) (hq : q.1 = C) (hn : As.length = n) (hsize : ls.size = nL) (hst : st0 = As.reverse ++ .ref b :: rest) (hroom : (rest.map fun v => v.category).sum ≤ 8) (hdg : decode cc pc = .ok (.invokevirtual index, 3)) (hf : cells ≤ R.cells ∧ slots ≤ R.slots)
    (kk : ∀ r : Int64, post r → W p l e R s m args below meth c H locs cells slots Q (F0 m (pc + 3) ls (.long r :: rest))) : W p l e R s m args below meth c H locs cells slots Q (F0 m pc ls st0) :=
  vp_callSl (W.runV (g := F0 m pc ls st0) X hM cw (wd_preV hK hw hbf hc hq) rfl hn hsize hst (lv_room hroom) hdg hf) kk
theorem wd_cvq {post : Option Nat → Prop} (X : CallFix p m c cc nL s args Ts own) (hK : va_K D cl tys s) (hw : wd_I D cl A H0 f H locs) (hM : Met l y ws rm (va_Pc (.ref b :: As) (wd_pre D cl tys f)) (va_Sq post) 0 0 (fun _ => False)) (cw : CallW R s args own C index y bytes maxL ret ws rm 0 0 n) (hbf : f b = some (.inr (ci, fs))) (hc : cl[ci]? = some q) (hq : q.1 = C) (hn : As.length = n) (hsize : ls.size = nL) (hst : st0 = As.reverse ++ .ref b :: rest) (hroom : (rest.map fun v => v.category).sum ≤ 8) (hdg : decode cc pc = .ok (.invokevirtual index, 3)) (hf : cells ≤ R.cells ∧ slots ≤ R.slots)
    (kk : ∀ r : Option Nat, post r → W p l e R s m args below meth c H locs cells slots Q (F0 m (pc + 3) ls (va_rf r :: rest))) : W p l e R s m args below meth c H locs cells slots Q (F0 m pc ls st0) :=
  va_csq (W.runV (g := F0 m pc ls st0) X hM cw (wd_preV hK hw hbf hc hq) rfl hn hsize hst (lv_room hroom) hdg hf) kk
theorem wd_csi {post : Int32 → Prop} (X : CallFix p m c cc nL s args Ts own) (hK : va_K D cl tys s) (hw : wd_I D cl A H0 f H locs) (hM : Met l y ws rm (va_Pc As (wd_pre D cl tys f)) (vp_Si post) 0 0 (fun _ => False)) (cw : CallB R s args own index y bytes maxL ret ws rm 0 0 n ∧ (Cond.static y).before args s = true) (hn : As.length = n) (hsize : ls.size = nL) (hst : st0 = As.reverse ++ rest) (hroom : (rest.map fun v => v.category).sum ≤ 8) (hdg : decode cc pc = .ok (.invokestatic index, 3)) (hf : cells ≤ R.cells ∧ slots ≤ R.slots)
    (kk : ∀ r : Int32, post r → W p l e R s m args below meth c H locs cells slots Q (F0 m (pc + 3) ls (.int r :: rest))) : W p l e R s m args below meth c H locs cells slots Q (F0 m pc ls st0) :=
  vp_callSi (W.runS (g := F0 m pc ls st0) X hM cw (wd_preS hK hw) rfl hn hsize hst (lv_room hroom) hdg hf) kk
/-- a writing call -/
theorem wd_mvi {post : Int32 → wd_M → Prop} (X : CallFix p m c cc nL s args Ts own) (hK : va_K D cl tys s) (hw : wd_I D cl A H0 f H locs) (hM : Met l y ws rm (va_Pc (.ref b :: As) (wd_preZ D cl tys f H.size)) (va_Qi post (wd_B D cl f H.size) (wd_A f H.size)) mc ms (wd_A f H.size)) (cw : CallW R s args own C index y bytes maxL ret ws rm mc ms n) (hbf : f b = some (.inr (ci, fs))) (hc : cl[ci]? = some q) (hq : q.1 = C) (hn : As.length = n) (hsize : ls.size = nL) (hst : st0 = As.reverse ++ .ref b :: rest) (hroom : (rest.map fun v => v.category).sum ≤ 8) (hdg : decode cc pc = .ok (.invokevirtual index, 3)) (hf : cells + mc ≤ R.cells ∧ slots + ms ≤ R.slots)
    (kk : ∀ (r : Int32) (f1 : wd_M) (H1 : Heap) (locs1 : List Loc), post r f1 → wd_I D cl A H0 f1 H1 locs1 → W p l e R s m args below meth c H1 locs1 (cells + mc) (slots + ms) Q (F0 m (pc + 3) ls (.int r :: rest))) : W p l e R s m args below meth c H locs cells slots Q (F0 m pc ls st0) :=
  va_calli (va_runV (g := F0 m pc ls st0) X hM cw (wd_preVZ hK hw hbf hc hq) rfl hn hsize hst (lv_room hroom) hdg hf) hw.2.1 (fun _ _ h => hw.sub h) (fun _ h => hw.sub h) (fun r u t H1 locs1 ht _ hp hB _ _ hS => kk r u H1 locs1 hp ⟨by rw [← ht]; exact hB.1, hS, fun x hx => hw.sub (hB.2 x hx), hw.2.2.2⟩)
theorem wd_mvv {post : wd_M → Prop} (X : CallFix p m c cc nL s args Ts own) (hK : va_K D cl tys s) (hw : wd_I D cl A H0 f H locs) (hM : Met l y ws rm (va_Pc (.ref b :: As) (wd_preZ D cl tys f H.size)) (va_Qv post (wd_B D cl f H.size) (wd_A f H.size)) mc ms (wd_A f H.size)) (cw : CallW R s args own C index y bytes maxL ret ws rm mc ms n) (hbf : f b = some (.inr (ci, fs))) (hc : cl[ci]? = some q) (hq : q.1 = C) (hn : As.length = n) (hsize : ls.size = nL) (hst : st0 = As.reverse ++ .ref b :: rest) (hroom : (rest.map fun v => v.category).sum ≤ 8) (hdg : decode cc pc = .ok (.invokevirtual index, 3)) (hf : cells + mc ≤ R.cells ∧ slots + ms ≤ R.slots)
    (kk : ∀ (f1 : wd_M) (H1 : Heap) (locs1 : List Loc), post f1 → wd_I D cl A H0 f1 H1 locs1 → W p l e R s m args below meth c H1 locs1 (cells + mc) (slots + ms) Q (F0 m (pc + 3) ls rest)) : W p l e R s m args below meth c H locs cells slots Q (F0 m pc ls st0) :=
  va_callv (va_runV (g := F0 m pc ls st0) X hM cw (wd_preVZ hK hw hbf hc hq) rfl hn hsize hst (lv_room hroom) hdg hf) hw.2.1 (fun _ _ h => hw.sub h) (fun _ h => hw.sub h) (fun u t H1 locs1 ht _ hp hB _ _ hS => kk u H1 locs1 hp ⟨by rw [← ht]; exact hB.1, hS, fun x hx => hw.sub (hB.2 x hx), hw.2.2.2⟩)
theorem wd_mvq {post : Option Nat → wd_M → Prop} (X : CallFix p m c cc nL s args Ts own) (hK : va_K D cl tys s) (hw : wd_I D cl A H0 f H locs) (hM : Met l y ws rm (va_Pc (.ref b :: As) (wd_preZ D cl tys f H.size)) (va_Qq post (wd_B D cl f H.size) (wd_A f H.size)) mc ms (wd_A f H.size)) (cw : CallW R s args own C index y bytes maxL ret ws rm mc ms n) (hbf : f b = some (.inr (ci, fs))) (hc : cl[ci]? = some q) (hq : q.1 = C) (hn : As.length = n) (hsize : ls.size = nL) (hst : st0 = As.reverse ++ .ref b :: rest) (hroom : (rest.map fun v => v.category).sum ≤ 8) (hdg : decode cc pc = .ok (.invokevirtual index, 3)) (hf : cells + mc ≤ R.cells ∧ slots + ms ≤ R.slots)
    (kk : ∀ (r : Option Nat) (f1 : wd_M) (H1 : Heap) (locs1 : List Loc), post r f1 → wd_I D cl A H0 f1 H1 locs1 → W p l e R s m args below meth c H1 locs1 (cells + mc) (slots + ms) Q (F0 m (pc + 3) ls (va_rf r :: rest))) : W p l e R s m args below meth c H locs cells slots Q (F0 m pc ls st0) :=
  va_callq (va_runV (g := F0 m pc ls st0) X hM cw (wd_preVZ hK hw hbf hc hq) rfl hn hsize hst (lv_room hroom) hdg hf) hw.2.1 (fun _ _ h => hw.sub h) (fun _ h => hw.sub h) (fun r u t H1 locs1 ht _ hp hB _ _ hS => kk r u H1 locs1 hp ⟨by rw [← ht]; exact hB.1, hS, fun x hx => hw.sub (hB.2 x hx), hw.2.2.2⟩)
theorem wd_mI {post : wd_M → Prop} (X : CallFix p m c cc nL s args Ts own) (hK : va_K D cl tys s) (hw : wd_I D cl A H0 f H locs) (hM : Met l y ws rm (va_Pc (.ref b :: As) (wd_preZ D cl tys f H.size)) (va_Qv post (wd_B D cl f H.size) (wd_A f H.size)) mc ms (wd_A f H.size)) (cw : CallB R s args own index y bytes maxL none ws rm mc ms n ∧ y.name = "<init>" ∧ (Cond.instanceMethod y).before args s = true) (hn : As.length = n) (hsize : ls.size = nL) (hst : st0 = As.reverse ++ .ref b :: rest) (hroom : (rest.map fun v => v.category).sum ≤ 8) (hdg : decode cc pc = .ok (.invokespecial index, 3)) (hf : cells + mc ≤ R.cells ∧ slots + ms ≤ R.slots)
    (kk : ∀ (f1 : wd_M) (H1 : Heap) (locs1 : List Loc), post f1 → wd_I D cl A H0 f1 H1 locs1 → W p l e R s m args below meth c H1 locs1 (cells + mc) (slots + ms) Q (F0 m (pc + 3) ls rest)) : W p l e R s m args below meth c H locs cells slots Q (F0 m pc ls st0) :=
  va_callv (va_runI (g := F0 m pc ls st0) X hM cw (wd_preSZ hK hw) rfl hn hsize hst (lv_room hroom) hdg hf) hw.2.1 (fun _ _ h => hw.sub h) (fun _ h => hw.sub h) (fun u t H1 locs1 ht _ hp hB _ _ hS => kk u H1 locs1 hp ⟨by rw [← ht]; exact hB.1, hS, fun x hx => hw.sub (hB.2 x hx), hw.2.2.2⟩)
/-- Object's constructor -/
theorem wd_obj (X : CallFix p m c cc nL s args Ts own) {idx a : Nat} (h1 : Cond.methodLink own idx Lib.objectInit ∈ Ts) (h2 : Cond.instanceMethod Lib.objectInit ∈ Ts) (h3 : Cond.code Lib.objectInit ⟨#[0xb1]⟩ 1 none ∈ Ts) (hsize : ls.size = nL) (hdg : decode cc pc = .ok (.invokespecial idx, 3)) (hfr : 1 ≤ R.frames) (hlo : 12 ≤ R.locals)
    (kk : W p l e R s m args below meth c H locs cells slots Q (F0 m (pc + 3) ls [])) : W p l e R s m args below meth c H locs cells slots Q (F0 m pc ls [.ref a]) :=
  W.objInit X.1 X.2.1 X.2.2.2.1 (X.2.2.2.2 _ h1) (X.2.2.2.2 _ h2) (X.2.2.2.2 _ h3) rfl (hsize.trans X.2.2.1.symm) rfl hdg hfr (by show 2 * 0 + 0 + 12 ≤ _; omega) kk
/-- returns of reading methods -/
theorem wd_ri {post : Int32 → Prop} {v : Int32} (X : CallFix p m c cc nL s args Ts own) (hr : meth.sig.returnType = some .int) (hlk : meth.locks = false) (hdg : decode cc pc = .ok (.ireturn, 1)) (hp : post v) : W p l e R s m args below meth c s.heap [] cells slots (MQ below (vp_Si post) args s cells slots (fun _ => False)) (F0 m pc ls [.int v]) :=
  W.iret X.1 X.2.1 hr (fun t ht _ => ⟨v, rfl, hp, ht⟩) (fun q h => by cases h) hdg hlk
theorem wd_rz {post : Int32 → Prop} {v : Int32} (X : CallFix p m c cc nL s args Ts own) (hr : meth.sig.returnType = some .boolean) (hlk : meth.locks = false) (hnar : narrow .boolean (.int v) = .int v) (hdg : decode cc pc = .ok (.ireturn, 1)) (hp : post v) : W p l e R s m args below meth c s.heap [] cells slots (MQ below (vp_Si post) args s cells slots (fun _ => False)) (F0 m pc ls [.int v]) :=
  W.zret X.1 X.2.1 hr hnar (fun t ht _ => ⟨v, rfl, hp, ht⟩) (fun q h => by cases h) hdg hlk
theorem wd_rl {post : Int64 → Prop} {v : Int64} (X : CallFix p m c cc nL s args Ts own) (hr : meth.sig.returnType = some .long) (hlk : meth.locks = false) (hdg : decode cc pc = .ok (.lreturn, 1)) (hp : post v) : W p l e R s m args below meth c s.heap [] cells slots (MQ below (vp_Sl post) args s cells slots (fun _ => False)) (F0 m pc ls [.long v]) :=
  W.lret X.1 X.2.1 hr (fun t ht _ => ⟨v, rfl, hp, ht⟩) (fun q h => by cases h) hdg hlk
theorem wd_rq {post : Option Nat → Prop} {r : Option Nat} {v : Value} {cn : String} (X : CallFix p m c cc nL s args Ts own) (hr : meth.sig.returnType = some (.object cn)) (hlk : meth.locks = false) (hv : v = va_rf r) (hdg : decode cc pc = .ok (.areturn, 1)) (hp : post r) : W p l e R s m args below meth c s.heap [] cells slots (MQ below (va_Sq post) args s cells slots (fun _ => False)) (F0 m pc ls [v]) :=
  W.aret X.1 X.2.1 hr (Or.inl ⟨_, rfl⟩) (by rw [hv]; exact va_rf_or r) (fun t ht _ => ⟨r, by rw [hv], hp, ht⟩) (fun q h => by cases h) hdg hlk
/-- returns of writing methods -/
theorem wd_wi {post : Int32 → wd_M → Prop} {v : Int32} {f1 : wd_M} (X : CallFix p m c cc nL s args Ts own) (hr : meth.sig.returnType = some .int) (hlk : meth.locks = false) (hw : wd_I D cl (wd_A f s.heap.size) s.heap f1 H locs) (hdg : decode cc pc = .ok (.ireturn, 1)) (hp : post v f1) : W p l e R s m args below meth c H locs cells slots (MQ below (va_Qi post (wd_B D cl f s.heap.size) (wd_A f s.heap.size)) args s cells slots (wd_A f s.heap.size)) (F0 m pc ls [.int v]) :=
  W.iret X.1 X.2.1 hr (fun t ht _ => ⟨⟨v, f1, rfl, hp, by rw [ht]; exact hw.1, hw.2.2.1⟩, hw.2.1.F ht⟩) hw.2.1.2.2 hdg hlk
theorem wd_wv {post : wd_M → Prop} {f1 : wd_M} (X : CallFix p m c cc nL s args Ts own) (hr : meth.sig.returnType = none) (hlk : meth.locks = false) (hw : wd_I D cl (wd_A f s.heap.size) s.heap f1 H locs) (hdg : decode cc pc = .ok (.return_, 1)) (hp : post f1) : W p l e R s m args below meth c H locs cells slots (MQ below (va_Qv post (wd_B D cl f s.heap.size) (wd_A f s.heap.size)) args s cells slots (wd_A f s.heap.size)) (F0 m pc ls []) :=
  W.vret X.1 X.2.1 hr (fun t ht _ => ⟨⟨f1, rfl, hp, by rw [ht]; exact hw.1, hw.2.2.1⟩, hw.2.1.F ht⟩) hw.2.1.2.2 hdg hlk
theorem wd_wq {post : Option Nat → wd_M → Prop} {r : Option Nat} {v : Value} {cn : String} {f1 : wd_M} (X : CallFix p m c cc nL s args Ts own) (hr : meth.sig.returnType = some (.object cn)) (hlk : meth.locks = false) (hw : wd_I D cl (wd_A f s.heap.size) s.heap f1 H locs) (hv : v = va_rf r) (hdg : decode cc pc = .ok (.areturn, 1)) (hp : post r f1) : W p l e R s m args below meth c H locs cells slots (MQ below (va_Qq post (wd_B D cl f s.heap.size) (wd_A f s.heap.size)) args s cells slots (wd_A f s.heap.size)) (F0 m pc ls [v]) :=
  W.aret X.1 X.2.1 hr (Or.inl ⟨_, rfl⟩) (by rw [hv]; exact va_rf_or r) (fun t ht _ => ⟨⟨r, f1, by rw [hv], hp, by rw [ht]; exact hw.1, hw.2.2.1⟩, hw.2.1.F ht⟩) hw.2.1.2.2 hdg hlk
end WDC
/-! rows for a reference that may be null -/
section WDO
variable {p : Program} {l : Launch} {e : Env} {R : Room} {s : State} {m : MethodId} {args : Array Value} {below : List Frame} {meth : Method} {c : Code} {H : Heap} {locs : List Loc} {cells slots : Nat} {Q : State → Prop}
variable {cc : ByteArray} {pc nL i : Nat} {ls : Array Slot} {rest : List Value} {r : Option Nat} {lv lv' : List (Nat × Value)}
theorem wd_astore_n (hexec : p.tables.exec = Jvm.exec) (hb : c.code = cc) {k : Fin 4} (hdg : decode cc pc = .ok (.astore_n k, 1)) (hi : (k : Nat) = i) (h : lv_has ls nL lv) (hn : i < nL) (hl : (i, va_rf r) :: lv.filter (fun q => !(q.1 == i) && !(q.1 + 1 == i && q.2.category == 2)) = lv')
    (kk : ∀ ls' : Array Slot, lv_has ls' nL lv' → W p l e R s m args below meth c H locs cells slots Q (F0 m (pc + 1) ls' rest)) : W p l e R s m args below meth c H locs cells slots Q (F0 m pc ls (va_rf r :: rest)) := by
  cases r with
  | none => exact lv_astore_nN hexec hb hdg hi h hn hl kk
  | some a => exact lv_astore_n hexec hb hdg hi h hn hl kk
theorem wd_astore (hexec : p.tables.exec = Jvm.exec) (hb : c.code = cc) (hdg : decode cc pc = .ok (.astore i, 2)) (h : lv_has ls nL lv) (hn : i < nL) (hl : (i, va_rf r) :: lv.filter (fun q => !(q.1 == i) && !(q.1 + 1 == i && q.2.category == 2)) = lv')
    (kk : ∀ ls' : Array Slot, lv_has ls' nL lv' → W p l e R s m args below meth c H locs cells slots Q (F0 m (pc + 2) ls' rest)) : W p l e R s m args below meth c H locs cells slots Q (F0 m pc ls (va_rf r :: rest)) := by
  cases r with
  | none => exact lv_astoreN hexec hb hdg h hn hl kk
  | some a => exact lv_astore hexec hb hdg h hn hl kk
theorem wd_aload_n (hexec : p.tables.exec = Jvm.exec) (hb : c.code = cc) {k : Fin 4} (hdg : decode cc pc = .ok (.aload_n k, 1)) (hi : (k : Nat) = i) (hl : ls[i]? = some (.val (va_rf r)))
    (kk : W p l e R s m args below meth c H locs cells slots Q (F0 m (pc + 1) ls (va_rf r :: rest))) : W p l e R s m args below meth c H locs cells slots Q (F0 m pc ls rest) := by
  cases r with
  | none => exact lv_aload_nN hexec hb hdg hi hl kk
  | some a => exact lv_aload_n hexec hb hdg hi hl kk
theorem wd_aload (hexec : p.tables.exec = Jvm.exec) (hb : c.code = cc) (hdg : decode cc pc = .ok (.aload i, 2)) (hl : ls[i]? = some (.val (va_rf r)))
    (kk : W p l e R s m args below meth c H locs cells slots Q (F0 m (pc + 2) ls (va_rf r :: rest))) : W p l e R s m args below meth c H locs cells slots Q (F0 m pc ls rest) := by
  cases r with
  | none => exact lv_aloadN hexec hb hdg hl kk
  | some a => exact lv_aload hexec hb hdg hl kk
theorem wd_ifnull (hexec : p.tables.exec = Jvm.exec) (hb : c.code = cc) {off : Int} {tgt : Nat} (hdg : decode cc pc = .ok (.ifnull off, 3)) (ht : (pc : Int) + off = (tgt : Int)) (kn : r = none → W p l e R s m args below meth c H locs cells slots Q (F0 m tgt ls rest)) (ks : ∀ a, r = some a → W p l e R s m args below meth c H locs cells slots Q (F0 m (pc + 3) ls rest)) : W p l e R s m args below meth c H locs cells slots Q (F0 m pc ls (va_rf r :: rest)) := by
  cases r with
  | none => exact lv_ifnullN hexec hb hdg ht (kn rfl)
  | some a => exact lv_ifnull hexec hb hdg (ks a rfl)
theorem wd_ifnonnull (hexec : p.tables.exec = Jvm.exec) (hb : c.code = cc) {off : Int} {tgt : Nat} (hdg : decode cc pc = .ok (.ifnonnull off, 3)) (ht : (pc : Int) + off = (tgt : Int)) (ks : ∀ a, r = some a → W p l e R s m args below meth c H locs cells slots Q (F0 m tgt ls rest)) (kn : r = none → W p l e R s m args below meth c H locs cells slots Q (F0 m (pc + 3) ls rest)) : W p l e R s m args below meth c H locs cells slots Q (F0 m pc ls (va_rf r :: rest)) := by
  cases r with
  | none => exact lv_ifnonnullN hexec hb hdg (kn rfl)
  | some a => exact lv_ifnonnull hexec hb hdg ht (ks a rfl)
theorem wd_nar {C : String} (r : Option Nat) : narrow (.object C) (va_rf r) = va_rf r := by cases r <;> rfl
theorem wd_fit {C : String} (r : Option Nat) : fits (.object C) (va_rf r) = true := by cases r <;> rfl
end WDO
/-! a contract's beginning, by kind of answer: the end is a hypothesis 'ret' about an unnamed goal Q -/
section WDS
variable {l : Launch} {y : MethodName} {Ts : List Cond} {rm : Room} {cc : ByteArray} {maxL : Nat} {av : List Value} {own : String} {D : va_G} {cl : List vw_C} {tys : List (ClassId × FieldType)} {f : wd_M}
theorem wd_Si {post : Int32 → Prop} (hy : plainName y.cls = true) (ho : y.cls = own) (hlen : (lg_sl av).length ≤ maxL)
    (body : ∀ (p : Program) (e : Env) (s : State) (m : MethodId) (args : Array Value) (below : List Frame) (meth : Method) (c : Code) (Q : State → Prop), CallFix p m c cc maxL s args Ts own → va_K D cl tys s → wd_I D cl (wd_A f s.heap.size) s.heap f s.heap [] → (∀ (pc : Nat) (ls : Array Slot) (v : Int32), decode cc pc = .ok (.ireturn, 1) → post v → W p l e rm s m args below meth c s.heap [] 0 0 Q (F0 m pc ls [.int v])) → ∀ ls : Array Slot, lv_has ls maxL (lv_args 0 av) → W p l e rm s m args below meth c s.heap [] 0 0 Q (F0 m 0 ls [])) :
    Met l y (.code y cc maxL (some .int) :: Ts) rm (va_Pc av (wd_pre D cl tys f)) (vp_Si post) 0 0 (fun _ => False) :=
  wd_met hy ho hlen fun p e s m below meth c X hr hlk _ hpre ls hl => body p e s m _ below meth c _ X hpre.2 (wd_I.start hpre.1) (fun _ _ _ hd hp => wd_ri X hr hlk hd hp) ls hl
theorem wd_Sz {post : Int32 → Prop} (hy : plainName y.cls = true) (ho : y.cls = own) (hlen : (lg_sl av).length ≤ maxL)
    (body : ∀ (p : Program) (e : Env) (s : State) (m : MethodId) (args : Array Value) (below : List Frame) (meth : Method) (c : Code) (Q : State → Prop), CallFix p m c cc maxL s args Ts own → va_K D cl tys s → wd_I D cl (wd_A f s.heap.size) s.heap f s.heap [] → (∀ (pc : Nat) (ls : Array Slot) (v : Int32), decode cc pc = .ok (.ireturn, 1) → narrow .boolean (.int v) = .int v → post v → W p l e rm s m args below meth c s.heap [] 0 0 Q (F0 m pc ls [.int v])) → ∀ ls : Array Slot, lv_has ls maxL (lv_args 0 av) → W p l e rm s m args below meth c s.heap [] 0 0 Q (F0 m 0 ls [])) :
    Met l y (.code y cc maxL (some .boolean) :: Ts) rm (va_Pc av (wd_pre D cl tys f)) (vp_Si post) 0 0 (fun _ => False) :=
  wd_met hy ho hlen fun p e s m below meth c X hr hlk _ hpre ls hl => body p e s m _ below meth c _ X hpre.2 (wd_I.start hpre.1) (fun _ _ _ hd hn hp => wd_rz X hr hlk hn hd hp) ls hl
theorem wd_Sl {post : Int64 → Prop} (hy : plainName y.cls = true) (ho : y.cls = own) (hlen : (lg_sl av).length ≤ maxL)
    (body : ∀ (p : Program) (e : Env) (s : State) (m : MethodId) (args : Array Value) (below : List Frame) (meth : Method) (c : Code) (Q : State → Prop), CallFix p m c cc maxL s args Ts own → va_K D cl tys s → wd_I D cl (wd_A f s.heap.size) s.heap f s.heap [] → (∀ (pc : Nat) (ls : Array Slot) (v : Int64), decode cc pc = .ok (.lreturn, 1) → post v → W p l e rm s m args below meth c s.heap [] 0 0 Q (F0 m pc ls [.long v])) → ∀ ls : Array Slot, lv_has ls maxL (lv_args 0 av) → W p l e rm s m args below meth c s.heap [] 0 0 Q (F0 m 0 ls [])) :
    Met l y (.code y cc maxL (some .long) :: Ts) rm (va_Pc av (wd_pre D cl tys f)) (vp_Sl post) 0 0 (fun _ => False) :=
  wd_met hy ho hlen fun p e s m below meth c X hr hlk _ hpre ls hl => body p e s m _ below meth c _ X hpre.2 (wd_I.start hpre.1) (fun _ _ _ hd hp => wd_rl X hr hlk hd hp) ls hl
theorem wd_Sq {post : Option Nat → Prop} {cn : String} (hy : plainName y.cls = true) (ho : y.cls = own) (hlen : (lg_sl av).length ≤ maxL)
    (body : ∀ (p : Program) (e : Env) (s : State) (m : MethodId) (args : Array Value) (below : List Frame) (meth : Method) (c : Code) (Q : State → Prop), CallFix p m c cc maxL s args Ts own → va_K D cl tys s → wd_I D cl (wd_A f s.heap.size) s.heap f s.heap [] → (∀ (pc : Nat) (ls : Array Slot) (r : Option Nat) (v : Value), decode cc pc = .ok (.areturn, 1) → v = va_rf r → post r → W p l e rm s m args below meth c s.heap [] 0 0 Q (F0 m pc ls [v])) → ∀ ls : Array Slot, lv_has ls maxL (lv_args 0 av) → W p l e rm s m args below meth c s.heap [] 0 0 Q (F0 m 0 ls [])) :
    Met l y (.code y cc maxL (some (.object cn)) :: Ts) rm (va_Pc av (wd_pre D cl tys f)) (va_Sq post) 0 0 (fun _ => False) :=
  wd_met hy ho hlen fun p e s m below meth c X hr hlk _ hpre ls hl => body p e s m _ below meth c _ X hpre.2 (wd_I.start hpre.1) (fun _ _ _ _ hd hv hp => wd_rq X hr hlk hv hd hp) ls hl
theorem wd_Qi {post : Int32 → wd_M → Prop} {mc ms : Nat} (hy : plainName y.cls = true) (ho : y.cls = own) (hlen : (lg_sl av).length ≤ maxL) {sz : Nat}
    (body : ∀ (p : Program) (e : Env) (s : State) (m : MethodId) (args : Array Value) (below : List Frame) (meth : Method) (c : Code) (Q : State → Prop), CallFix p m c cc maxL s args Ts own → va_K D cl tys s → wd_I D cl (wd_A f s.heap.size) s.heap f s.heap [] → (∀ (pc : Nat) (ls : Array Slot) (v : Int32) (f1 : wd_M) (H : Heap) (locs : List Loc), decode cc pc = .ok (.ireturn, 1) → wd_I D cl (wd_A f s.heap.size) s.heap f1 H locs → post v f1 → W p l e rm s m args below meth c H locs mc ms Q (F0 m pc ls [.int v])) → ∀ ls : Array Slot, lv_has ls maxL (lv_args 0 av) → W p l e rm s m args below meth c s.heap [] 0 0 Q (F0 m 0 ls [])) :
    Met l y (.code y cc maxL (some .int) :: Ts) rm (va_Pc av (wd_preZ D cl tys f sz)) (va_Qi post (wd_B D cl f sz) (wd_A f sz)) mc ms (wd_A f sz) := by
  refine wd_met hy ho hlen fun p e s m below meth c X hr hlk _ hpre ls hl => ?_
  obtain ⟨rfl, hP, hK⟩ := hpre
  exact body p e s m _ below meth c _ X hK (wd_I.start hP) (fun _ _ _ _ _ _ hd hw hp => wd_wi X hr hlk hw hd hp) ls hl
theorem wd_Qv {post : wd_M → Prop} {mc ms : Nat} (hy : plainName y.cls = true) (ho : y.cls = own) (hlen : (lg_sl av).length ≤ maxL) {sz : Nat}
    (body : ∀ (p : Program) (e : Env) (s : State) (m : MethodId) (args : Array Value) (below : List Frame) (meth : Method) (c : Code) (Q : State → Prop), CallFix p m c cc maxL s args Ts own → va_K D cl tys s → meth.name = y.name → wd_I D cl (wd_A f s.heap.size) s.heap f s.heap [] → (∀ (pc : Nat) (ls : Array Slot) (f1 : wd_M) (H : Heap) (locs : List Loc), decode cc pc = .ok (.return_, 1) → wd_I D cl (wd_A f s.heap.size) s.heap f1 H locs → post f1 → W p l e rm s m args below meth c H locs mc ms Q (F0 m pc ls [])) → ∀ ls : Array Slot, lv_has ls maxL (lv_args 0 av) → W p l e rm s m args below meth c s.heap [] 0 0 Q (F0 m 0 ls [])) :
    Met l y (.code y cc maxL none :: Ts) rm (va_Pc av (wd_preZ D cl tys f sz)) (va_Qv post (wd_B D cl f sz) (wd_A f sz)) mc ms (wd_A f sz) := by
  refine wd_met hy ho hlen fun p e s m below meth c X hr hlk hnm hpre ls hl => ?_
  obtain ⟨rfl, hP, hK⟩ := hpre
  exact body p e s m _ below meth c _ X hK hnm (wd_I.start hP) (fun _ _ _ _ _ hd hw hp => wd_wv X hr hlk hw hd hp) ls hl
theorem wd_QvA {post : wd_M → Prop} {mc ms : Nat} (hy : plainName y.cls = true) (ho : y.cls = own) (hlen : (lg_sl av).length ≤ maxL) {sz : Nat} {C1 C2 : String}
    (body : ∀ (p : Program) (e : Env) (s : State) (m : MethodId) (args : Array Value) (below : List Frame) (meth : Method) (c : Code) (Q : State → Prop), CallFix p m c cc maxL s args Ts own → va_K D cl tys s → meth.name = y.name → wd_ao C1 C2 s → wd_I D cl (wd_A f s.heap.size) s.heap f s.heap [] → (∀ (pc : Nat) (ls : Array Slot) (f1 : wd_M) (H : Heap) (locs : List Loc), decode cc pc = .ok (.return_, 1) → wd_I D cl (wd_A f s.heap.size) s.heap f1 H locs → post f1 → W p l e rm s m args below meth c H locs mc ms Q (F0 m pc ls [])) → ∀ ls : Array Slot, lv_has ls maxL (lv_args 0 av) → W p l e rm s m args below meth c s.heap [] 0 0 Q (F0 m 0 ls [])) :
    Met l y (.code y cc maxL none :: Ts) rm (va_Pc av (wd_preA C1 C2 D cl tys f sz)) (va_Qv post (wd_B D cl f sz) (wd_A f sz)) mc ms (wd_A f sz) := by
  refine wd_met hy ho hlen fun p e s m below meth c X hr hlk hnm hpre ls hl => ?_
  obtain ⟨hao, rfl, hP, hK⟩ := hpre
  exact body p e s m _ below meth c _ X hK hnm hao (wd_I.start hP) (fun _ _ _ _ _ hd hw hp => wd_wv X hr hlk hw hd hp) ls hl
theorem wd_Qq {post : Option Nat → wd_M → Prop} {cn : String} {mc ms : Nat} (hy : plainName y.cls = true) (ho : y.cls = own) (hlen : (lg_sl av).length ≤ maxL) {sz : Nat}
    (body : ∀ (p : Program) (e : Env) (s : State) (m : MethodId) (args : Array Value) (below : List Frame) (meth : Method) (c : Code) (Q : State → Prop), CallFix p m c cc maxL s args Ts own → va_K D cl tys s → wd_I D cl (wd_A f s.heap.size) s.heap f s.heap [] → (∀ (pc : Nat) (ls : Array Slot) (r : Option Nat) (v : Value) (f1 : wd_M) (H : Heap) (locs : List Loc), decode cc pc = .ok (.areturn, 1) → v = va_rf r → wd_I D cl (wd_A f s.heap.size) s.heap f1 H locs → post r f1 → W p l e rm s m args below meth c H locs mc ms Q (F0 m pc ls [v])) → ∀ ls : Array Slot, lv_has ls maxL (lv_args 0 av) → W p l e rm s m args below meth c s.heap [] 0 0 Q (F0 m 0 ls [])) :
    Met l y (.code y cc maxL (some (.object cn)) :: Ts) rm (va_Pc av (wd_preZ D cl tys f sz)) (va_Qq post (wd_B D cl f sz) (wd_A f sz)) mc ms (wd_A f sz) := by
  refine wd_met hy ho hlen fun p e s m below meth c X hr hlk _ hpre ls hl => ?_
  obtain ⟨rfl, hP, hK⟩ := hpre
  exact body p e s m _ below meth c _ X hK (wd_I.start hP) (fun _ _ _ _ _ _ _ hd hv hw hp => wd_wq X hr hlk hw hv hd hp) ls hl
end WDS
end
section
/-! two sides in one heap -/
def wd_J (D : va_G) (cl : List vw_C) (A : Nat → Prop) (H0 : Heap) (f g : wd_M) (H : Heap) (locs : List Loc) : Prop := wd_I D cl A H0 f H locs ∧ wd_P D cl g H ∧ (∀ q : Nat, g q ≠ none → f q = none) ∧ ∀ q : Nat, g q ≠ none → A q
section WDJ
variable {p : Program} {l : Launch} {e : Env} {R : Room} {s : State} {m : MethodId} {args : Array Value} {below : List Frame} {meth : Method} {c : Code} {H : Heap} {locs : List Loc} {cells slots : Nat} {Q : State → Prop}
variable {cc bytes : ByteArray} {pc nL maxL n index mc ms ci b : Nat} {ls : Array Slot} {As rest st0 fs : List Value} {D : va_G} {cl : List vw_C} {A : Nat → Prop} {tys : List (ClassId × FieldType)} {H0 : Heap} {f g : wd_M} {own C : String} {Ts ws : List Cond} {y : MethodName} {ret : Option FieldType} {rm : Room} {q : vw_C}
theorem wd_J.swap (h : wd_J D cl A H0 f g H locs) : wd_J D cl A H0 g f H locs := by
  obtain ⟨⟨h1, h2, h3, h4⟩, h5, h6, h7⟩ := h
  refine ⟨⟨h5, h2, h7, h4⟩, h1, fun q hq => ?_, h3⟩
  cases hg : g q with
  | none => rfl
  | some e => exact absurd (h6 q (by rw [hg]; exact fun z => by cases z)) hq
theorem wd_J.after (h : wd_J D cl A H0 f g H locs) {f1 : wd_M} {H1 : Heap} {locs1 : List Loc} (hP : wd_P D cl f1 H1) (hd : ∀ q : Nat, f1 q ≠ none → wd_A f H.size q) (hS : va_S A H0 H1 locs1) (hk : ∀ q : Nat, q < H.size → ¬ wd_A f H.size q → H1[q]? = H[q]?) : wd_J D cl A H0 f1 g H1 locs1 := by
  obtain ⟨hw, h5, h6, h7⟩ := h
  have hlt : ∀ q : Nat, g q ≠ none → q < H.size := fun q hq => by
    cases hg : g q with
    | none => exact absurd hg hq
    | some e => exact h5.lt hg
  have hn : ∀ q : Nat, g q ≠ none → ¬ wd_A f H.size q := fun q hq ha => by
    rcases ha with ha | ha
    · exact ha (h6 q hq)
    · exact absurd (hlt q hq) (by omega)
  refine ⟨⟨hP, hS, fun q hq => hw.sub (hd q hq), hw.2.2.2⟩, fun q e hq => ?_, fun q hq => ?_, h7⟩
  · have hq0 : g q ≠ none := by rw [hq]; exact fun z => by cases z
    exact (h5 q e hq).kept (hk q (hlt q hq0) (hn q hq0))
  · cases hf : f1 q with
    | none => rfl
    | some e => exact absurd (hd q (by rw [hf]; exact fun z => by cases z)) (hn q hq)
theorem wd_jvi {post : Int32 → wd_M → Prop} (X : CallFix p m c cc nL s args Ts own) (hK : va_K D cl tys s) (hj : wd_J D cl A H0 f g H locs) (hM : Met l y ws rm (va_Pc (.ref b :: As) (wd_preZ D cl tys f H.size)) (va_Qi post (wd_B D cl f H.size) (wd_A f H.size)) mc ms (wd_A f H.size)) (cw : CallW R s args own C index y bytes maxL ret ws rm mc ms n) (hbf : f b = some (.inr (ci, fs))) (hc : cl[ci]? = some q) (hq : q.1 = C) (hn : As.length = n) (hsize : ls.size = nL) (hst : st0 = As.reverse ++ .ref b :: rest) (hroom : (rest.map fun v => v.category).sum ≤ 8) (hdg : decode cc pc = .ok (.invokevirtual index, 3)) (hf : cells + mc ≤ R.cells ∧ slots + ms ≤ R.slots)
    (kk : ∀ (r : Int32) (f1 : wd_M) (H1 : Heap) (locs1 : List Loc), post r f1 → wd_J D cl A H0 f1 g H1 locs1 → W p l e R s m args below meth c H1 locs1 (cells + mc) (slots + ms) Q (F0 m (pc + 3) ls (.int r :: rest))) : W p l e R s m args below meth c H locs cells slots Q (F0 m pc ls st0) :=
  va_calli (va_runV (g := F0 m pc ls st0) X hM cw (wd_preVZ hK hj.1 hbf hc hq) rfl hn hsize hst (lv_room hroom) hdg hf) hj.1.2.1 (fun _ _ h => hj.1.sub h) (fun _ h => hj.1.sub h) (fun r u t H1 locs1 ht _ hp hB _ hk hS => kk r u H1 locs1 hp (hj.after (by rw [← ht]; exact hB.1) hB.2 hS hk))
theorem wd_jI {post : wd_M → Prop} (X : CallFix p m c cc nL s args Ts own) (hK : va_K D cl tys s) (hj : wd_J D cl A H0 f g H locs) (hM : Met l y ws rm (va_Pc (.ref b :: As) (wd_preZ D cl tys f H.size)) (va_Qv post (wd_B D cl f H.size) (wd_A f H.size)) mc ms (wd_A f H.size)) (cw : CallB R s args own index y bytes maxL none ws rm mc ms n ∧ y.name = "<init>" ∧ (Cond.instanceMethod y).before args s = true) (hn : As.length = n) (hsize : ls.size = nL) (hst : st0 = As.reverse ++ .ref b :: rest) (hroom : (rest.map fun v => v.category).sum ≤ 8) (hdg : decode cc pc = .ok (.invokespecial index, 3)) (hf : cells + mc ≤ R.cells ∧ slots + ms ≤ R.slots)
    (kk : ∀ (f1 : wd_M) (H1 : Heap) (locs1 : List Loc), post f1 → wd_J D cl A H0 f1 g H1 locs1 → W p l e R s m args below meth c H1 locs1 (cells + mc) (slots + ms) Q (F0 m (pc + 3) ls rest)) : W p l e R s m args below meth c H locs cells slots Q (F0 m pc ls st0) :=
  va_callv (va_runI (g := F0 m pc ls st0) X hM cw (wd_preSZ hK hj.1) rfl hn hsize hst (lv_room hroom) hdg hf) hj.1.2.1 (fun _ _ h => hj.1.sub h) (fun _ h => hj.1.sub h) (fun u t H1 locs1 ht _ hp hB _ hk hS => kk u H1 locs1 hp (hj.after (by rw [← ht]; exact hB.1) hB.2 hS hk))
theorem wd_jIA {C1 C2 : String} {post : wd_M → Prop} (X : CallFix p m c cc nL s args Ts own) (hK : va_K D cl tys s) (hao : wd_ao C1 C2 s) (hj : wd_J D cl A H0 f g H locs) (hM : Met l y ws rm (va_Pc (.ref b :: As) (wd_preA C1 C2 D cl tys f H.size)) (va_Qv post (wd_B D cl f H.size) (wd_A f H.size)) mc ms (wd_A f H.size)) (cw : CallB R s args own index y bytes maxL none ws rm mc ms n ∧ y.name = "<init>" ∧ (Cond.instanceMethod y).before args s = true) (hn : As.length = n) (hsize : ls.size = nL) (hst : st0 = As.reverse ++ .ref b :: rest) (hroom : (rest.map fun v => v.category).sum ≤ 8) (hdg : decode cc pc = .ok (.invokespecial index, 3)) (hf : cells + mc ≤ R.cells ∧ slots + ms ≤ R.slots)
    (kk : ∀ (f1 : wd_M) (H1 : Heap) (locs1 : List Loc), post f1 → wd_J D cl A H0 f1 g H1 locs1 → W p l e R s m args below meth c H1 locs1 (cells + mc) (slots + ms) Q (F0 m (pc + 3) ls rest)) : W p l e R s m args below meth c H locs cells slots Q (F0 m pc ls st0) :=
  va_callv (va_runI (g := F0 m pc ls st0) X hM cw ⟨wd_blindA, fun U hU hW => ⟨rfl, ⟨va_AO.moved hW.alike hao.1, va_AO.moved hW.alike hao.2⟩, by rw [hU], by rw [hU]; exact hj.1.1, va_K.moved hW.alike hK⟩⟩ rfl hn hsize hst (lv_room hroom) hdg hf) hj.1.2.1 (fun _ _ h => hj.1.sub h) (fun _ h => hj.1.sub h) (fun u t H1 locs1 ht _ hp hB _ hk hS => kk u H1 locs1 hp (hj.after (by rw [← ht]; exact hB.1) hB.2 hS hk))
theorem wd_jnew (X : CallFix p m c cc nL s args Ts own) (hK : va_K D cl tys s) (hj : wd_J D cl A H0 f g H locs) {T : u_T} {N : Nat} (hin : ∀ w ∈ u_ws C T N, w ∈ Ts) (ty : Nat → FieldType) (hty : ∀ k, k < N → parseFieldDescriptor (T k).2.2.1 = some (ty k)) (hcl : Cond.classLink own index C ∈ Ts) (hinst : Cond.instantiable C N ∈ Ts) (hini : Cond.initialized C ∈ Ts) (hc : cl[ci]? = some (C, T, N)) (hfs : ∀ j, j < N → defaultValue (ty j) = vp_V fs j) (hcells : cells + 1 ≤ R.cells) (hslots : slots + N ≤ R.slots) (hdg : decode cc pc = .ok (.new index, 3))
    (kk : ∀ (q : Nat) (f1 : wd_M) (H1 : Heap), f q = none → f1 = wd_up f q (.inr (ci, fs)) → wd_J D cl A H0 f1 g H1 locs → W p l e R s m args below meth c H1 locs (cells + 1) (slots + N) Q (F0 m (pc + 3) ls (.ref q :: rest))) : W p l e R s m args below meth c H locs cells slots Q (F0 m pc ls rest) := by
  have hKn := hK.1 ci _ hc
  obtain ⟨hexec, hb, hml, hown, hts⟩ := X
  refine W.newcK hexec hb hown (hts _ hcl) (hts _ hinst) (hts _ hini) rfl hdg hcells hslots hKn.2.1 rfl fun H1 kC hkC e1 z1 o1 => ?_
  have hw1 := hj.1.push (e := .inr (ci, fs)) ⟨_, hc, (u_born ty hts hin hKn hkC e1 hty).to hfs⟩ z1 o1
  refine kk H.size _ H1 (hj.1.1.fresh (Nat.le_refl _)) rfl (hj.after hw1.1 (fun q hq => ?_) hw1.2.1 (fun q hq _ => o1 q hq))
  by_cases hqs : q = H.size
  · exact Or.inr (Nat.le_of_eq hqs.symm)
  · rw [wd_un hqs] at hq
    exact Or.inl hq
end WDJ
end
section
-- ===== PART A: goes FIRST, ahead of the names: the tables' words, and 'selects' of the private methods out of them =====
/-- a private method of a class that the tables say can be made, by its rows of tables_1 -/
def lw_okq (q : MethodName × Nat) : Prop := (q.1.cls ≠ "java/lang/invoke/MethodHandle" ∧ q.1.cls ≠ "java/lang/invoke/VarHandle") ∧ Cond.instantiable q.1.cls q.2 ∈ tables_1 ∧ Cond.privateMethod q.1 ∈ tables_1 ∧ Cond.instanceMethod q.1 ∈ tables_1
theorem lw_p0 : lw_okq (⟨"ClerkRows", "isTime", "(J)Z"⟩, 6) := ⟨⟨by decide +kernel, by decide +kernel⟩, List.mem_of_getElem? (i := 8) (by decide +kernel), List.mem_of_getElem? (i := 79) (by decide +kernel), List.mem_of_getElem? (i := 80) (by decide +kernel)⟩
theorem lw_p1 : lw_okq (⟨"ClerkRows", "findClerk", "(I)LClerkRows$Clerk;"⟩, 6) := ⟨⟨by decide +kernel, by decide +kernel⟩, List.mem_of_getElem? (i := 8) (by decide +kernel), List.mem_of_getElem? (i := 133) (by decide +kernel), List.mem_of_getElem? (i := 134) (by decide +kernel)⟩
theorem lw_p2 : lw_okq (⟨"ClerkRows", "passTo", "(J)V"⟩, 6) := ⟨⟨by decide +kernel, by decide +kernel⟩, List.mem_of_getElem? (i := 8) (by decide +kernel), List.mem_of_getElem? (i := 137) (by decide +kernel), List.mem_of_getElem? (i := 138) (by decide +kernel)⟩
theorem lw_p3 : lw_okq (⟨"ClerkRows", "findGiven", "(LClerkRows$Clerk;)LClerkRows$Picture;"⟩, 6) := ⟨⟨by decide +kernel, by decide +kernel⟩, List.mem_of_getElem? (i := 8) (by decide +kernel), List.mem_of_getElem? (i := 141) (by decide +kernel), List.mem_of_getElem? (i := 142) (by decide +kernel)⟩
theorem lw_p4 : lw_okq (⟨"ClerkRows$Picture", "isWanting", "()Z"⟩, 8) := ⟨⟨by decide +kernel, by decide +kernel⟩, List.mem_of_getElem? (i := 94) (by decide +kernel), List.mem_of_getElem? (i := 150) (by decide +kernel), List.mem_of_getElem? (i := 151) (by decide +kernel)⟩
theorem lw_p5 : lw_okq (⟨"ClerkRows$Picture", "isBarredBy", "(LClerkRows$Clerk;)Z"⟩, 8) := ⟨⟨by decide +kernel, by decide +kernel⟩, List.mem_of_getElem? (i := 94) (by decide +kernel), List.mem_of_getElem? (i := 154) (by decide +kernel), List.mem_of_getElem? (i := 155) (by decide +kernel)⟩
theorem lw_p6 : lw_okq (⟨"ClerkRows", "findPicture", "(I)LClerkRows$Picture;"⟩, 6) := ⟨⟨by decide +kernel, by decide +kernel⟩, List.mem_of_getElem? (i := 8) (by decide +kernel), List.mem_of_getElem? (i := 194) (by decide +kernel), List.mem_of_getElem? (i := 195) (by decide +kernel)⟩
theorem lw_p7 : lw_okq (⟨"ClerkRows$Picture", "hasEntry", "(I)Z"⟩, 8) := ⟨⟨by decide +kernel, by decide +kernel⟩, List.mem_of_getElem? (i := 94) (by decide +kernel), List.mem_of_getElem? (i := 202) (by decide +kernel), List.mem_of_getElem? (i := 203) (by decide +kernel)⟩
theorem lw_p8 : lw_okq (⟨"ClerkRows$Picture", "endAlike", "(I)V"⟩, 8) := ⟨⟨by decide +kernel, by decide +kernel⟩, List.mem_of_getElem? (i := 94) (by decide +kernel), List.mem_of_getElem? (i := 206) (by decide +kernel), List.mem_of_getElem? (i := 207) (by decide +kernel)⟩
theorem lw_p9 : lw_okq (⟨"ClerkRowsModel", "isTime", "(J)Z"⟩, 17) := ⟨⟨by decide +kernel, by decide +kernel⟩, List.mem_of_getElem? (i := 248) (by decide +kernel), List.mem_of_getElem? (i := 313) (by decide +kernel), List.mem_of_getElem? (i := 314) (by decide +kernel)⟩
theorem lw_p10 : lw_okq (⟨"ClerkRowsModel", "open", "()I"⟩, 17) := ⟨⟨by decide +kernel, by decide +kernel⟩, List.mem_of_getElem? (i := 248) (by decide +kernel), List.mem_of_getElem? (i := 322) (by decide +kernel), List.mem_of_getElem? (i := 323) (by decide +kernel)⟩
theorem lw_p11 : lw_okq (⟨"ClerkRowsModel", "held", "(I)I"⟩, 17) := ⟨⟨by decide +kernel, by decide +kernel⟩, List.mem_of_getElem? (i := 248) (by decide +kernel), List.mem_of_getElem? (i := 334) (by decide +kernel), List.mem_of_getElem? (i := 335) (by decide +kernel)⟩
theorem lw_p12 : lw_okq (⟨"ClerkRowsModel", "pass", "(J)V"⟩, 17) := ⟨⟨by decide +kernel, by decide +kernel⟩, List.mem_of_getElem? (i := 248) (by decide +kernel), List.mem_of_getElem? (i := 338) (by decide +kernel), List.mem_of_getElem? (i := 339) (by decide +kernel)⟩
theorem lw_p13 : lw_okq (⟨"ClerkRowsModel", "isFree", "(II)Z"⟩, 17) := ⟨⟨by decide +kernel, by decide +kernel⟩, List.mem_of_getElem? (i := 248) (by decide +kernel), List.mem_of_getElem? (i := 342) (by decide +kernel), List.mem_of_getElem? (i := 343) (by decide +kernel)⟩
theorem lw_p14 : lw_okq (⟨"ClerkRowsModel", "isTaken", "(I)Z"⟩, 17) := ⟨⟨by decide +kernel, by decide +kernel⟩, List.mem_of_getElem? (i := 248) (by decide +kernel), List.mem_of_getElem? (i := 346) (by decide +kernel), List.mem_of_getElem? (i := 347) (by decide +kernel)⟩
theorem lw_p15 : lw_okq (⟨"ClerkRowsModel", "differ", "(I)Z"⟩, 17) := ⟨⟨by decide +kernel, by decide +kernel⟩, List.mem_of_getElem? (i := 248) (by decide +kernel), List.mem_of_getElem? (i := 350) (by decide +kernel), List.mem_of_getElem? (i := 351) (by decide +kernel)⟩
def lw_privs_1 : List (MethodName × Nat) := [(⟨"ClerkRows", "isTime", "(J)Z"⟩, 6), (⟨"ClerkRows", "findClerk", "(I)LClerkRows$Clerk;"⟩, 6), (⟨"ClerkRows", "passTo", "(J)V"⟩, 6), (⟨"ClerkRows", "findGiven", "(LClerkRows$Clerk;)LClerkRows$Picture;"⟩, 6), (⟨"ClerkRows$Picture", "isWanting", "()Z"⟩, 8), (⟨"ClerkRows$Picture", "isBarredBy", "(LClerkRows$Clerk;)Z"⟩, 8), (⟨"ClerkRows", "findPicture", "(I)LClerkRows$Picture;"⟩, 6), (⟨"ClerkRows$Picture", "hasEntry", "(I)Z"⟩, 8), (⟨"ClerkRows$Picture", "endAlike", "(I)V"⟩, 8), (⟨"ClerkRowsModel", "isTime", "(J)Z"⟩, 17), (⟨"ClerkRowsModel", "open", "()I"⟩, 17), (⟨"ClerkRowsModel", "held", "(I)I"⟩, 17), (⟨"ClerkRowsModel", "pass", "(J)V"⟩, 17), (⟨"ClerkRowsModel", "isFree", "(II)Z"⟩, 17), (⟨"ClerkRowsModel", "isTaken", "(I)Z"⟩, 17), (⟨"ClerkRowsModel", "differ", "(I)Z"⟩, 17)]
theorem lw_r1 : ∀ q ∈ lw_privs_1, lw_okq q := List.forall_mem_cons.mpr ⟨lw_p0, List.forall_mem_cons.mpr ⟨lw_p1, List.forall_mem_cons.mpr ⟨lw_p2, List.forall_mem_cons.mpr ⟨lw_p3, List.forall_mem_cons.mpr ⟨lw_p4, List.forall_mem_cons.mpr ⟨lw_p5, List.forall_mem_cons.mpr ⟨lw_p6, List.forall_mem_cons.mpr ⟨lw_p7, List.forall_mem_cons.mpr ⟨lw_p8, List.forall_mem_cons.mpr ⟨lw_p9, List.forall_mem_cons.mpr ⟨lw_p10, List.forall_mem_cons.mpr ⟨lw_p11, List.forall_mem_cons.mpr ⟨lw_p12, List.forall_mem_cons.mpr ⟨lw_p13, List.forall_mem_cons.mpr ⟨lw_p14, List.forall_mem_cons.mpr ⟨lw_p15, fun _ h => absurd h List.not_mem_nil⟩⟩⟩⟩⟩⟩⟩⟩⟩⟩⟩⟩⟩⟩⟩⟩
theorem lw_p16 : lw_okq (⟨"ClerkRowsModel", "isPicture", "(I)Z"⟩, 17) := ⟨⟨by decide +kernel, by decide +kernel⟩, List.mem_of_getElem? (i := 248) (by decide +kernel), List.mem_of_getElem? (i := 358) (by decide +kernel), List.mem_of_getElem? (i := 359) (by decide +kernel)⟩
theorem lw_p17 : lw_okq (⟨"ClerkRowsModel", "take", "(II)V"⟩, 17) := ⟨⟨by decide +kernel, by decide +kernel⟩, List.mem_of_getElem? (i := 248) (by decide +kernel), List.mem_of_getElem? (i := 363) (by decide +kernel), List.mem_of_getElem? (i := 364) (by decide +kernel)⟩
theorem lw_p18 : lw_okq (⟨"ClerkRowsModel", "stateOf", "(I)I"⟩, 17) := ⟨⟨by decide +kernel, by decide +kernel⟩, List.mem_of_getElem? (i := 248) (by decide +kernel), List.mem_of_getElem? (i := 367) (by decide +kernel), List.mem_of_getElem? (i := 368) (by decide +kernel)⟩
def lw_privs_2 : List (MethodName × Nat) := [(⟨"ClerkRowsModel", "isPicture", "(I)Z"⟩, 17), (⟨"ClerkRowsModel", "take", "(II)V"⟩, 17), (⟨"ClerkRowsModel", "stateOf", "(I)I"⟩, 17)]
theorem lw_r2 : ∀ q ∈ lw_privs_2, lw_okq q := List.forall_mem_cons.mpr ⟨lw_p16, List.forall_mem_cons.mpr ⟨lw_p17, List.forall_mem_cons.mpr ⟨lw_p18, fun _ h => absurd h List.not_mem_nil⟩⟩⟩
def lw_privs : List (MethodName × Nat) := lw_privs_1 ++ (lw_privs_2)
def lw_tbl : List Cond := k2_sels lw_privs ++ tables_1
theorem lw_privs_ok : ∀ q ∈ lw_privs, lw_okq q := by
  show ∀ q ∈ lw_privs_1 ++ (lw_privs_2), lw_okq q
  exact List.forall_mem_append.mpr ⟨lw_r1, lw_r2⟩
-- names
abbrev R_ClerkRows : String := "ClerkRows"
def F_ClerkRows : u_T := fun k => match k with
  | 0 => ("ClerkRows", "mostOpen", "I", true)
  | 1 => ("ClerkRows", "pictures", "[LClerkRows$Picture;", true)
  | 2 => ("ClerkRows", "clerks", "[LClerkRows$Clerk;", true)
  | 3 => ("ClerkRows", "made", "I", false)
  | 4 => ("ClerkRows", "now", "J", false)
  | _ => ("ClerkRows", "lateSinceTick", "I", false)
def t_ClerkRows : Nat → FieldType := fun k => match k with
  | 0 => .int
  | 1 => .array (.object "ClerkRows$Picture")
  | 2 => .array (.object "ClerkRows$Clerk")
  | 3 => .int
  | 4 => .long
  | _ => .int
theorem n_ClerkRows : ∀ a, a < 6 → ∀ b, b < 6 → a ≠ b → (F_ClerkRows a).2.1 ≠ (F_ClerkRows b).2.1 := by decide +kernel
theorem t_ClerkRows_ok : ∀ k, k < 6 → parseFieldDescriptor (F_ClerkRows k).2.2.1 = some (t_ClerkRows k) := by decide +kernel
abbrev R_Clerk : String := "ClerkRows$Clerk"
def F_Clerk : u_T := fun k => match k with
  | 0 => ("ClerkRows$Clerk", "number", "I", true)
  | 1 => ("ClerkRows$Clerk", "in", "Z", false)
  | 2 => ("ClerkRows$Clerk", "office", "I", false)
  | 3 => ("ClerkRows$Clerk", "skill", "I", false)
  | _ => ("ClerkRows$Clerk", "turn", "LClerkRows$Turn;", false)
def t_Clerk : Nat → FieldType := fun k => match k with
  | 0 => .int
  | 1 => .boolean
  | 2 => .int
  | 3 => .int
  | _ => .object "ClerkRows$Turn"
theorem n_Clerk : ∀ a, a < 5 → ∀ b, b < 5 → a ≠ b → (F_Clerk a).2.1 ≠ (F_Clerk b).2.1 := by decide +kernel
theorem t_Clerk_ok : ∀ k, k < 5 → parseFieldDescriptor (F_Clerk k).2.2.1 = some (t_Clerk k) := by decide +kernel
abbrev R_Turn : String := "ClerkRows$Turn"
def F_Turn : u_T := fun k => match k with
  | 0 => ("ClerkRows$Turn", "picture", "I", true)
  | 1 => ("ClerkRows$Turn", "clerk", "I", true)
  | 2 => ("ClerkRows$Turn", "office", "I", true)
  | 3 => ("ClerkRows$Turn", "earlier", "LClerkRows$Turn;", true)
  | _ => ("ClerkRows$Turn", "entry", "I", false)
def t_Turn : Nat → FieldType := fun k => match k with
  | 0 => .int
  | 1 => .int
  | 2 => .int
  | 3 => .object "ClerkRows$Turn"
  | _ => .int
theorem n_Turn : ∀ a, a < 5 → ∀ b, b < 5 → a ≠ b → (F_Turn a).2.1 ≠ (F_Turn b).2.1 := by decide +kernel
theorem t_Turn_ok : ∀ k, k < 5 → parseFieldDescriptor (F_Turn k).2.2.1 = some (t_Turn k) := by decide +kernel
abbrev R_Picture : String := "ClerkRows$Picture"
def F_Picture : u_T := fun k => match k with
  | 0 => ("ClerkRows$Picture", "number", "I", true)
  | 1 => ("ClerkRows$Picture", "due", "J", true)
  | 2 => ("ClerkRows$Picture", "skill", "I", true)
  | 3 => ("ClerkRows$Picture", "wants", "I", false)
  | 4 => ("ClerkRows$Picture", "answers", "I", false)
  | 5 => ("ClerkRows$Picture", "end", "I", false)
  | 6 => ("ClerkRows$Picture", "settledWith", "I", false)
  | _ => ("ClerkRows$Picture", "last", "LClerkRows$Turn;", false)
def t_Picture : Nat → FieldType := fun k => match k with
  | 0 => .int
  | 1 => .long
  | 2 => .int
  | 3 => .int
  | 4 => .int
  | 5 => .int
  | 6 => .int
  | _ => .object "ClerkRows$Turn"
theorem n_Picture : ∀ a, a < 8 → ∀ b, b < 8 → a ≠ b → (F_Picture a).2.1 ≠ (F_Picture b).2.1 := by decide +kernel
theorem t_Picture_ok : ∀ k, k < 8 → parseFieldDescriptor (F_Picture k).2.2.1 = some (t_Picture k) := by decide +kernel
abbrev R_Model : String := "ClerkRowsModel"
def F_Model : u_T := fun k => match k with
  | 0 => ("ClerkRowsModel", "thrown", "I", false)
  | 1 => ("ClerkRowsModel", "most", "I", true)
  | 2 => ("ClerkRowsModel", "count", "I", false)
  | 3 => ("ClerkRowsModel", "dues", "[J", true)
  | 4 => ("ClerkRowsModel", "skills", "[I", true)
  | 5 => ("ClerkRowsModel", "ends", "[I", true)
  | 6 => ("ClerkRowsModel", "settled", "[I", true)
  | 7 => ("ClerkRowsModel", "answers", "[I", true)
  | 8 => ("ClerkRowsModel", "entries", "[I", true)
  | 9 => ("ClerkRowsModel", "did", "[I", true)
  | 10 => ("ClerkRowsModel", "where", "[I", true)
  | 11 => ("ClerkRowsModel", "said", "[I", true)
  | 12 => ("ClerkRowsModel", "in", "[Z", true)
  | 13 => ("ClerkRowsModel", "offices", "[I", true)
  | 14 => ("ClerkRowsModel", "levels", "[I", true)
  | 15 => ("ClerkRowsModel", "now", "J", false)
  | _ => ("ClerkRowsModel", "late", "I", false)
def t_Model : Nat → FieldType := fun k => match k with
  | 0 => .int
  | 1 => .int
  | 2 => .int
  | 3 => .array (.long)
  | 4 => .array (.int)
  | 5 => .array (.int)
  | 6 => .array (.int)
  | 7 => .array (.int)
  | 8 => .array (.int)
  | 9 => .array (.int)
  | 10 => .array (.int)
  | 11 => .array (.int)
  | 12 => .array (.boolean)
  | 13 => .array (.int)
  | 14 => .array (.int)
  | 15 => .long
  | _ => .int
theorem n_Model : ∀ a, a < 17 → ∀ b, b < 17 → a ≠ b → (F_Model a).2.1 ≠ (F_Model b).2.1 := by decide +kernel
theorem t_Model_ok : ∀ k, k < 17 → parseFieldDescriptor (F_Model k).2.2.1 = some (t_Model k) := by decide +kernel
abbrev R_Law : String := "ClerkRowsLaw"
abbrev classes : List vw_C := [(R_ClerkRows, F_ClerkRows, 6), (R_Clerk, F_Clerk, 5), (R_Turn, F_Turn, 5), (R_Picture, F_Picture, 8), (R_Model, F_Model, 17)]
abbrev ty (ca : Nat → ClassId) : List (ClassId × FieldType) := [(ca 0, .object "ClerkRows$Picture"), (ca 1, .object "ClerkRows$Clerk"), (ca 2, .int), (ca 3, .long), (ca 4, .boolean)]
abbrev b_ClerkRows_init : ByteArray := prog_1_method_1_code
abbrev y_ClerkRows_init : MethodName := ⟨R_ClerkRows, "<init>", "(I)V"⟩
abbrev b_ClerkRows_picture : ByteArray := prog_1_method_2_code
abbrev y_ClerkRows_picture : MethodName := ⟨R_ClerkRows, "picture", "(JI)I"⟩
abbrev b_ClerkRows_give : ByteArray := prog_1_method_3_code
abbrev y_ClerkRows_give : MethodName := ⟨R_ClerkRows, "give", "(IJ)I"⟩
abbrev b_ClerkRows_answer : ByteArray := prog_1_method_4_code
abbrev y_ClerkRows_answer : MethodName := ⟨R_ClerkRows, "answer", "(IIIJ)I"⟩
abbrev b_ClerkRows_office : ByteArray := prog_1_method_5_code
abbrev y_ClerkRows_office : MethodName := ⟨R_ClerkRows, "office", "(III)I"⟩
abbrev b_ClerkRows_leave : ByteArray := prog_1_method_6_code
abbrev y_ClerkRows_leave : MethodName := ⟨R_ClerkRows, "leave", "(I)I"⟩
abbrev b_ClerkRows_tick : ByteArray := prog_1_method_7_code
abbrev y_ClerkRows_tick : MethodName := ⟨R_ClerkRows, "tick", "(J)I"⟩
abbrev b_ClerkRows_settled : ByteArray := prog_1_method_8_code
abbrev y_ClerkRows_settled : MethodName := ⟨R_ClerkRows, "settled", "(I)I"⟩
abbrev b_ClerkRows_state : ByteArray := prog_1_method_9_code
abbrev y_ClerkRows_state : MethodName := ⟨R_ClerkRows, "state", "(I)I"⟩
abbrev b_ClerkRows_agreement : ByteArray := prog_1_method_10_code
abbrev y_ClerkRows_agreement : MethodName := ⟨R_ClerkRows, "agreement", "(III)J"⟩
abbrev b_ClerkRows_waiting : ByteArray := prog_1_method_11_code
abbrev y_ClerkRows_waiting : MethodName := ⟨R_ClerkRows, "waiting", "()I"⟩
abbrev b_ClerkRows_isWithin : ByteArray := prog_1_method_12_code
abbrev y_ClerkRows_isWithin : MethodName := ⟨R_ClerkRows, "isWithin", "(II)Z"⟩
abbrev b_ClerkRows_isTime : ByteArray := prog_1_method_13_code
abbrev y_ClerkRows_isTime : MethodName := ⟨R_ClerkRows, "isTime", "(J)Z"⟩
abbrev b_ClerkRows_findClerk : ByteArray := prog_1_method_14_code
abbrev y_ClerkRows_findClerk : MethodName := ⟨R_ClerkRows, "findClerk", "(I)LClerkRows$Clerk;"⟩
abbrev b_ClerkRows_findPicture : ByteArray := prog_1_method_15_code
abbrev y_ClerkRows_findPicture : MethodName := ⟨R_ClerkRows, "findPicture", "(I)LClerkRows$Picture;"⟩
abbrev b_ClerkRows_passTo : ByteArray := prog_1_method_16_code
abbrev y_ClerkRows_passTo : MethodName := ⟨R_ClerkRows, "passTo", "(J)V"⟩
abbrev b_ClerkRows_findGiven : ByteArray := prog_1_method_17_code
abbrev y_ClerkRows_findGiven : MethodName := ⟨R_ClerkRows, "findGiven", "(LClerkRows$Clerk;)LClerkRows$Picture;"⟩
abbrev b_Model_init : ByteArray := prog_6_method_1_code
abbrev y_Model_init : MethodName := ⟨R_Model, "<init>", "(I)V"⟩
abbrev b_Model_isIn : ByteArray := prog_6_method_3_code
abbrev y_Model_isIn : MethodName := ⟨R_Model, "isIn", "(JJJ)Z"⟩
abbrev b_Model_isPicture : ByteArray := prog_6_method_4_code
abbrev y_Model_isPicture : MethodName := ⟨R_Model, "isPicture", "(I)Z"⟩
abbrev b_Model_isClerk : ByteArray := prog_6_method_5_code
abbrev y_Model_isClerk : MethodName := ⟨R_Model, "isClerk", "(I)Z"⟩
abbrev b_Model_isTime : ByteArray := prog_6_method_6_code
abbrev y_Model_isTime : MethodName := ⟨R_Model, "isTime", "(J)Z"⟩
abbrev b_Model_open : ByteArray := prog_6_method_7_code
abbrev y_Model_open : MethodName := ⟨R_Model, "open", "()I"⟩
abbrev b_Model_picture : ByteArray := prog_6_method_8_code
abbrev y_Model_picture : MethodName := ⟨R_Model, "picture", "(JI)I"⟩
abbrev b_Model_pass : ByteArray := prog_6_method_9_code
abbrev y_Model_pass : MethodName := ⟨R_Model, "pass", "(J)V"⟩
abbrev b_Model_held : ByteArray := prog_6_method_10_code
abbrev y_Model_held : MethodName := ⟨R_Model, "held", "(I)I"⟩
abbrev b_Model_differ : ByteArray := prog_6_method_11_code
abbrev y_Model_differ : MethodName := ⟨R_Model, "differ", "(I)Z"⟩
abbrev b_Model_isTaken : ByteArray := prog_6_method_12_code
abbrev y_Model_isTaken : MethodName := ⟨R_Model, "isTaken", "(I)Z"⟩
abbrev b_Model_isFree : ByteArray := prog_6_method_13_code
abbrev y_Model_isFree : MethodName := ⟨R_Model, "isFree", "(II)Z"⟩
abbrev b_Model_give : ByteArray := prog_6_method_14_code
abbrev y_Model_give : MethodName := ⟨R_Model, "give", "(IJ)I"⟩
abbrev b_Model_stateOf : ByteArray := prog_6_method_15_code
abbrev y_Model_stateOf : MethodName := ⟨R_Model, "stateOf", "(I)I"⟩
abbrev b_Model_take : ByteArray := prog_6_method_16_code
abbrev y_Model_take : MethodName := ⟨R_Model, "take", "(II)V"⟩
abbrev b_Model_answer : ByteArray := prog_6_method_17_code
abbrev y_Model_answer : MethodName := ⟨R_Model, "answer", "(IIIJ)I"⟩
abbrev b_Model_office : ByteArray := prog_6_method_18_code
abbrev y_Model_office : MethodName := ⟨R_Model, "office", "(III)I"⟩
abbrev b_Model_leave : ByteArray := prog_6_method_19_code
abbrev y_Model_leave : MethodName := ⟨R_Model, "leave", "(I)I"⟩
abbrev b_Model_tick : ByteArray := prog_6_method_20_code
abbrev y_Model_tick : MethodName := ⟨R_Model, "tick", "(J)I"⟩
abbrev b_Model_settled : ByteArray := prog_6_method_21_code
abbrev y_Model_settled : MethodName := ⟨R_Model, "settled", "(I)I"⟩
abbrev b_Model_state : ByteArray := prog_6_method_22_code
abbrev y_Model_state : MethodName := ⟨R_Model, "state", "(I)I"⟩
abbrev b_Model_agreement : ByteArray := prog_6_method_23_code
abbrev y_Model_agreement : MethodName := ⟨R_Model, "agreement", "(III)J"⟩
abbrev b_Model_waiting : ByteArray := prog_6_method_24_code
abbrev y_Model_waiting : MethodName := ⟨R_Model, "waiting", "()I"⟩
abbrev b_Clerk_init : ByteArray := prog_2_method_1_code
abbrev y_Clerk_init : MethodName := ⟨R_Clerk, "<init>", "(I)V"⟩
abbrev b_Picture_init : ByteArray := prog_3_method_1_code
abbrev y_Picture_init : MethodName := ⟨R_Picture, "<init>", "(IJI)V"⟩
abbrev b_Picture_hasEnded : ByteArray := prog_3_method_2_code
abbrev y_Picture_hasEnded : MethodName := ⟨R_Picture, "hasEnded", "()Z"⟩
abbrev b_Picture_findState : ByteArray := prog_3_method_3_code
abbrev y_Picture_findState : MethodName := ⟨R_Picture, "findState", "()I"⟩
abbrev b_Picture_isFreeFor : ByteArray := prog_3_method_4_code
abbrev y_Picture_isFreeFor : MethodName := ⟨R_Picture, "isFreeFor", "(LClerkRows$Clerk;)Z"⟩
abbrev b_Picture_addTurn : ByteArray := prog_3_method_5_code
abbrev y_Picture_addTurn : MethodName := ⟨R_Picture, "addTurn", "(LClerkRows$Clerk;)LClerkRows$Turn;"⟩
abbrev b_Picture_takeEntry : ByteArray := prog_3_method_6_code
abbrev y_Picture_takeEntry : MethodName := ⟨R_Picture, "takeEntry", "(LClerkRows$Turn;I)V"⟩
abbrev b_Picture_findEntry : ByteArray := prog_3_method_7_code
abbrev y_Picture_findEntry : MethodName := ⟨R_Picture, "findEntry", "(I)I"⟩
abbrev b_Picture_endAlike : ByteArray := prog_3_method_8_code
abbrev y_Picture_endAlike : MethodName := ⟨R_Picture, "endAlike", "(I)V"⟩
abbrev b_Picture_hasEntry : ByteArray := prog_3_method_9_code
abbrev y_Picture_hasEntry : MethodName := ⟨R_Picture, "hasEntry", "(I)Z"⟩
abbrev b_Picture_isWanting : ByteArray := prog_3_method_10_code
abbrev y_Picture_isWanting : MethodName := ⟨R_Picture, "isWanting", "()Z"⟩
abbrev b_Picture_isBarredBy : ByteArray := prog_3_method_11_code
abbrev y_Picture_isBarredBy : MethodName := ⟨R_Picture, "isBarredBy", "(LClerkRows$Clerk;)Z"⟩
abbrev b_Turn_init : ByteArray := prog_4_method_1_code
abbrev y_Turn_init : MethodName := ⟨R_Turn, "<init>", "(ILClerkRows$Clerk;LClerkRows$Turn;)V"⟩
abbrev b_Law_cell : ByteArray := method_2_code
abbrev y_Law_cell : MethodName := ⟨R_Law, "cell", "([II)I"⟩
def tb : List Cond := lw_tbl.filter (fun w => k2_isCode w || goodWord w)
theorem tb_of {w : Cond} (h : w ∈ lw_tbl) (g : (k2_isCode w || goodWord w) = true) : w ∈ tb := List.mem_filter.mpr ⟨h, g⟩
theorem tb_sub {w : Cond} (h : w ∈ tb) : w ∈ lw_tbl := (List.mem_filter.mp h).1
theorem tb_good {w : Cond} (h : w ∈ tb) : (w.onTables && w.keeps) = true ∨ ∃ ty, w = .arrayClass ty := by
  have h1 := (List.mem_filter.mp h).2
  rcases (Bool.or_eq_true _ _).mp h1 with hc | hg
  · cases w <;> first | (simp [k2_isCode] at hc; done) | exact Or.inl rfl
  · exact good_of_word hg
theorem gd_0 {y : MethodName} {b : ByteArray} {n : Nat} {r : Option FieldType} (h : Cond.code y b n r ∈ tb) : GoodIn tb (.code y b n r :: tb) := fun w hw => by
  rcases List.mem_cons.mp hw with rfl | hw
  · exact ⟨h, tb_good h⟩
  · exact ⟨hw, tb_good hw⟩
theorem gd_V {own C : String} {idx : Nat} {y : MethodName} {b : ByteArray} {n : Nat} {r : Option FieldType} (h1 : Cond.methodLink own idx y ∈ tb) (h2 : Cond.instanceMethod y ∈ tb) (h3 : Cond.selects C y y ∈ tb) (h4 : Cond.initialized C ∈ tb) (h5 : Cond.code y b n r ∈ tb) : GoodIn tb (wsV own idx C y (.code y b n r :: tb)) := fun w hw => by
  simp only [wsV, List.cons_append, List.nil_append, List.mem_cons] at hw
  rcases hw with rfl | rfl | rfl | rfl | rfl | hw
  · exact ⟨h1, tb_good h1⟩
  · exact ⟨h2, tb_good h2⟩
  · exact ⟨h3, tb_good h3⟩
  · exact ⟨h4, tb_good h4⟩
  · exact ⟨h5, tb_good h5⟩
  · exact ⟨hw, tb_good hw⟩
theorem gd_S {own : String} {idx : Nat} {y : MethodName} {b : ByteArray} {n : Nat} {r : Option FieldType} (h1 : Cond.methodLink own idx y ∈ tb) (h2 : Cond.static y ∈ tb) (h4 : Cond.initialized own ∈ tb) (h5 : Cond.code y b n r ∈ tb) : GoodIn tb (wsS own idx y (.code y b n r :: tb)) := fun w hw => by
  simp only [wsS, List.cons_append, List.nil_append, List.mem_cons] at hw
  rcases hw with rfl | rfl | rfl | rfl | hw
  · exact ⟨h1, tb_good h1⟩
  · exact ⟨h2, tb_good h2⟩
  · exact ⟨h4, tb_good h4⟩
  · exact ⟨h5, tb_good h5⟩
  · exact ⟨hw, tb_good hw⟩
theorem i_ClerkRows : ∀ w ∈ u_ws R_ClerkRows F_ClerkRows 6, w ∈ tb := by decide +kernel
theorem in_ClerkRows : Cond.initialized R_ClerkRows ∈ tb := tb_of (by decide +kernel) (by decide +kernel)
theorem ib_ClerkRows : Cond.instantiable R_ClerkRows 6 ∈ tb := tb_of (by decide +kernel) (by decide +kernel)
theorem i_Clerk : ∀ w ∈ u_ws R_Clerk F_Clerk 5, w ∈ tb := by decide +kernel
theorem in_Clerk : Cond.initialized R_Clerk ∈ tb := tb_of (by decide +kernel) (by decide +kernel)
theorem ib_Clerk : Cond.instantiable R_Clerk 5 ∈ tb := tb_of (by decide +kernel) (by decide +kernel)
theorem i_Turn : ∀ w ∈ u_ws R_Turn F_Turn 5, w ∈ tb := by decide +kernel
theorem in_Turn : Cond.initialized R_Turn ∈ tb := tb_of (by decide +kernel) (by decide +kernel)
theorem ib_Turn : Cond.instantiable R_Turn 5 ∈ tb := tb_of (by decide +kernel) (by decide +kernel)
theorem i_Picture : ∀ w ∈ u_ws R_Picture F_Picture 8, w ∈ tb := by decide +kernel
theorem in_Picture : Cond.initialized R_Picture ∈ tb := tb_of (by decide +kernel) (by decide +kernel)
theorem ib_Picture : Cond.instantiable R_Picture 8 ∈ tb := tb_of (by decide +kernel) (by decide +kernel)
theorem i_Model : ∀ w ∈ u_ws R_Model F_Model 17, w ∈ tb := by decide +kernel
theorem in_Model : Cond.initialized R_Model ∈ tb := tb_of (by decide +kernel) (by decide +kernel)
theorem ib_Model : Cond.instantiable R_Model 17 ∈ tb := tb_of (by decide +kernel) (by decide +kernel)
theorem in_Law : Cond.initialized R_Law ∈ tb := tb_of (by decide +kernel) (by decide +kernel)
theorem in_Math : Cond.initialized "java/lang/Math" ∈ tb := tb_of (by decide +kernel) (by decide +kernel)
theorem cd_ClerkRows_init : Cond.code y_ClerkRows_init b_ClerkRows_init 3 none ∈ tb := tb_of (List.mem_of_getElem? (i := 30) rfl) rfl
theorem im_ClerkRows_init : Cond.instanceMethod y_ClerkRows_init ∈ tb := tb_of (by decide +kernel) (by decide +kernel)
theorem cd_ClerkRows_picture : Cond.code y_ClerkRows_picture b_ClerkRows_picture 4 (some .int) ∈ tb := tb_of (List.mem_of_getElem? (i := 96) rfl) rfl
theorem im_ClerkRows_picture : Cond.instanceMethod y_ClerkRows_picture ∈ tb := tb_of (by decide +kernel) (by decide +kernel)
theorem se_ClerkRows_picture : Cond.selects R_ClerkRows y_ClerkRows_picture y_ClerkRows_picture ∈ tb := tb_of (by decide +kernel) (by decide +kernel)
theorem cd_ClerkRows_give : Cond.code y_ClerkRows_give b_ClerkRows_give 6 (some .int) ∈ tb := tb_of (List.mem_of_getElem? (i := 150) rfl) rfl
theorem im_ClerkRows_give : Cond.instanceMethod y_ClerkRows_give ∈ tb := tb_of (by decide +kernel) (by decide +kernel)
theorem se_ClerkRows_give : Cond.selects R_ClerkRows y_ClerkRows_give y_ClerkRows_give ∈ tb := tb_of (by decide +kernel) (by decide +kernel)
theorem cd_ClerkRows_answer : Cond.code y_ClerkRows_answer b_ClerkRows_answer 9 (some .int) ∈ tb := tb_of (List.mem_of_getElem? (i := 211) rfl) rfl
theorem im_ClerkRows_answer : Cond.instanceMethod y_ClerkRows_answer ∈ tb := tb_of (by decide +kernel) (by decide +kernel)
theorem se_ClerkRows_answer : Cond.selects R_ClerkRows y_ClerkRows_answer y_ClerkRows_answer ∈ tb := tb_of (by decide +kernel) (by decide +kernel)
theorem cd_ClerkRows_office : Cond.code y_ClerkRows_office b_ClerkRows_office 5 (some .int) ∈ tb := tb_of (List.mem_of_getElem? (i := 235) rfl) rfl
theorem im_ClerkRows_office : Cond.instanceMethod y_ClerkRows_office ∈ tb := tb_of (by decide +kernel) (by decide +kernel)
theorem se_ClerkRows_office : Cond.selects R_ClerkRows y_ClerkRows_office y_ClerkRows_office ∈ tb := tb_of (by decide +kernel) (by decide +kernel)
theorem cd_ClerkRows_leave : Cond.code y_ClerkRows_leave b_ClerkRows_leave 4 (some .int) ∈ tb := tb_of (List.mem_of_getElem? (i := 239) rfl) rfl
theorem im_ClerkRows_leave : Cond.instanceMethod y_ClerkRows_leave ∈ tb := tb_of (by decide +kernel) (by decide +kernel)
theorem se_ClerkRows_leave : Cond.selects R_ClerkRows y_ClerkRows_leave y_ClerkRows_leave ∈ tb := tb_of (by decide +kernel) (by decide +kernel)
theorem cd_ClerkRows_tick : Cond.code y_ClerkRows_tick b_ClerkRows_tick 4 (some .int) ∈ tb := tb_of (List.mem_of_getElem? (i := 243) rfl) rfl
theorem im_ClerkRows_tick : Cond.instanceMethod y_ClerkRows_tick ∈ tb := tb_of (by decide +kernel) (by decide +kernel)
theorem se_ClerkRows_tick : Cond.selects R_ClerkRows y_ClerkRows_tick y_ClerkRows_tick ∈ tb := tb_of (by decide +kernel) (by decide +kernel)
theorem cd_ClerkRows_settled : Cond.code y_ClerkRows_settled b_ClerkRows_settled 3 (some .int) ∈ tb := tb_of (List.mem_of_getElem? (i := 247) rfl) rfl
theorem im_ClerkRows_settled : Cond.instanceMethod y_ClerkRows_settled ∈ tb := tb_of (by decide +kernel) (by decide +kernel)
theorem se_ClerkRows_settled : Cond.selects R_ClerkRows y_ClerkRows_settled y_ClerkRows_settled ∈ tb := tb_of (by decide +kernel) (by decide +kernel)
theorem cd_ClerkRows_state : Cond.code y_ClerkRows_state b_ClerkRows_state 3 (some .int) ∈ tb := tb_of (List.mem_of_getElem? (i := 251) rfl) rfl
theorem im_ClerkRows_state : Cond.instanceMethod y_ClerkRows_state ∈ tb := tb_of (by decide +kernel) (by decide +kernel)
theorem se_ClerkRows_state : Cond.selects R_ClerkRows y_ClerkRows_state y_ClerkRows_state ∈ tb := tb_of (by decide +kernel) (by decide +kernel)
theorem cd_ClerkRows_agreement : Cond.code y_ClerkRows_agreement b_ClerkRows_agreement 14 (some .long) ∈ tb := tb_of (List.mem_of_getElem? (i := 255) rfl) rfl
theorem im_ClerkRows_agreement : Cond.instanceMethod y_ClerkRows_agreement ∈ tb := tb_of (by decide +kernel) (by decide +kernel)
theorem se_ClerkRows_agreement : Cond.selects R_ClerkRows y_ClerkRows_agreement y_ClerkRows_agreement ∈ tb := tb_of (by decide +kernel) (by decide +kernel)
theorem cd_ClerkRows_waiting : Cond.code y_ClerkRows_waiting b_ClerkRows_waiting 6 (some .int) ∈ tb := tb_of (List.mem_of_getElem? (i := 108) rfl) rfl
theorem im_ClerkRows_waiting : Cond.instanceMethod y_ClerkRows_waiting ∈ tb := tb_of (by decide +kernel) (by decide +kernel)
theorem se_ClerkRows_waiting : Cond.selects R_ClerkRows y_ClerkRows_waiting y_ClerkRows_waiting ∈ tb := tb_of (by decide +kernel) (by decide +kernel)
theorem cd_ClerkRows_isWithin : Cond.code y_ClerkRows_isWithin b_ClerkRows_isWithin 2 (some .boolean) ∈ tb := tb_of (List.mem_of_getElem? (i := 104) rfl) rfl
theorem st_ClerkRows_isWithin : Cond.static y_ClerkRows_isWithin ∈ tb := tb_of (by decide +kernel) (by decide +kernel)
theorem cd_ClerkRows_isTime : Cond.code y_ClerkRows_isTime b_ClerkRows_isTime 3 (some .boolean) ∈ tb := tb_of (List.mem_of_getElem? (i := 100) rfl) rfl
theorem im_ClerkRows_isTime : Cond.instanceMethod y_ClerkRows_isTime ∈ tb := tb_of (by decide +kernel) (by decide +kernel)
theorem se_ClerkRows_isTime : Cond.selects R_ClerkRows y_ClerkRows_isTime y_ClerkRows_isTime ∈ tb := tb_of (by decide +kernel) (by decide +kernel)
theorem cd_ClerkRows_findClerk : Cond.code y_ClerkRows_findClerk b_ClerkRows_findClerk 2 (some (.object "ClerkRows$Clerk")) ∈ tb := tb_of (List.mem_of_getElem? (i := 154) rfl) rfl
theorem im_ClerkRows_findClerk : Cond.instanceMethod y_ClerkRows_findClerk ∈ tb := tb_of (by decide +kernel) (by decide +kernel)
theorem se_ClerkRows_findClerk : Cond.selects R_ClerkRows y_ClerkRows_findClerk y_ClerkRows_findClerk ∈ tb := tb_of (by decide +kernel) (by decide +kernel)
theorem cd_ClerkRows_findPicture : Cond.code y_ClerkRows_findPicture b_ClerkRows_findPicture 2 (some (.object "ClerkRows$Picture")) ∈ tb := tb_of (List.mem_of_getElem? (i := 215) rfl) rfl
theorem im_ClerkRows_findPicture : Cond.instanceMethod y_ClerkRows_findPicture ∈ tb := tb_of (by decide +kernel) (by decide +kernel)
theorem se_ClerkRows_findPicture : Cond.selects R_ClerkRows y_ClerkRows_findPicture y_ClerkRows_findPicture ∈ tb := tb_of (by decide +kernel) (by decide +kernel)
theorem cd_ClerkRows_passTo : Cond.code y_ClerkRows_passTo b_ClerkRows_passTo 7 none ∈ tb := tb_of (List.mem_of_getElem? (i := 158) rfl) rfl
theorem im_ClerkRows_passTo : Cond.instanceMethod y_ClerkRows_passTo ∈ tb := tb_of (by decide +kernel) (by decide +kernel)
theorem se_ClerkRows_passTo : Cond.selects R_ClerkRows y_ClerkRows_passTo y_ClerkRows_passTo ∈ tb := tb_of (by decide +kernel) (by decide +kernel)
theorem cd_ClerkRows_findGiven : Cond.code y_ClerkRows_findGiven b_ClerkRows_findGiven 7 (some (.object "ClerkRows$Picture")) ∈ tb := tb_of (List.mem_of_getElem? (i := 162) rfl) rfl
theorem im_ClerkRows_findGiven : Cond.instanceMethod y_ClerkRows_findGiven ∈ tb := tb_of (by decide +kernel) (by decide +kernel)
theorem se_ClerkRows_findGiven : Cond.selects R_ClerkRows y_ClerkRows_findGiven y_ClerkRows_findGiven ∈ tb := tb_of (by decide +kernel) (by decide +kernel)
theorem cd_Model_init : Cond.code y_Model_init b_Model_init 3 none ∈ tb := tb_of (List.mem_of_getElem? (i := 270) rfl) rfl
theorem im_Model_init : Cond.instanceMethod y_Model_init ∈ tb := tb_of (by decide +kernel) (by decide +kernel)
theorem cd_Model_isIn : Cond.code y_Model_isIn b_Model_isIn 6 (some .boolean) ∈ tb := tb_of (List.mem_of_getElem? (i := 338) rfl) rfl
theorem st_Model_isIn : Cond.static y_Model_isIn ∈ tb := tb_of (by decide +kernel) (by decide +kernel)
theorem cd_Model_isPicture : Cond.code y_Model_isPicture b_Model_isPicture 2 (some .boolean) ∈ tb := tb_of (List.mem_of_getElem? (i := 379) rfl) rfl
theorem im_Model_isPicture : Cond.instanceMethod y_Model_isPicture ∈ tb := tb_of (by decide +kernel) (by decide +kernel)
theorem se_Model_isPicture : Cond.selects R_Model y_Model_isPicture y_Model_isPicture ∈ tb := tb_of (by decide +kernel) (by decide +kernel)
theorem cd_Model_isClerk : Cond.code y_Model_isClerk b_Model_isClerk 1 (some .boolean) ∈ tb := tb_of (List.mem_of_getElem? (i := 350) rfl) rfl
theorem st_Model_isClerk : Cond.static y_Model_isClerk ∈ tb := tb_of (by decide +kernel) (by decide +kernel)
theorem cd_Model_isTime : Cond.code y_Model_isTime b_Model_isTime 3 (some .boolean) ∈ tb := tb_of (List.mem_of_getElem? (i := 334) rfl) rfl
theorem im_Model_isTime : Cond.instanceMethod y_Model_isTime ∈ tb := tb_of (by decide +kernel) (by decide +kernel)
theorem se_Model_isTime : Cond.selects R_Model y_Model_isTime y_Model_isTime ∈ tb := tb_of (by decide +kernel) (by decide +kernel)
theorem cd_Model_open : Cond.code y_Model_open b_Model_open 3 (some .int) ∈ tb := tb_of (List.mem_of_getElem? (i := 343) rfl) rfl
theorem im_Model_open : Cond.instanceMethod y_Model_open ∈ tb := tb_of (by decide +kernel) (by decide +kernel)
theorem se_Model_open : Cond.selects R_Model y_Model_open y_Model_open ∈ tb := tb_of (by decide +kernel) (by decide +kernel)
theorem cd_Model_picture : Cond.code y_Model_picture b_Model_picture 4 (some .int) ∈ tb := tb_of (List.mem_of_getElem? (i := 330) rfl) rfl
theorem im_Model_picture : Cond.instanceMethod y_Model_picture ∈ tb := tb_of (by decide +kernel) (by decide +kernel)
theorem se_Model_picture : Cond.selects R_Model y_Model_picture y_Model_picture ∈ tb := tb_of (by decide +kernel) (by decide +kernel)
theorem cd_Model_pass : Cond.code y_Model_pass b_Model_pass 4 none ∈ tb := tb_of (List.mem_of_getElem? (i := 359) rfl) rfl
theorem im_Model_pass : Cond.instanceMethod y_Model_pass ∈ tb := tb_of (by decide +kernel) (by decide +kernel)
theorem se_Model_pass : Cond.selects R_Model y_Model_pass y_Model_pass ∈ tb := tb_of (by decide +kernel) (by decide +kernel)
theorem cd_Model_held : Cond.code y_Model_held b_Model_held 4 (some .int) ∈ tb := tb_of (List.mem_of_getElem? (i := 355) rfl) rfl
theorem im_Model_held : Cond.instanceMethod y_Model_held ∈ tb := tb_of (by decide +kernel) (by decide +kernel)
theorem se_Model_held : Cond.selects R_Model y_Model_held y_Model_held ∈ tb := tb_of (by decide +kernel) (by decide +kernel)
theorem cd_Model_differ : Cond.code y_Model_differ b_Model_differ 2 (some .boolean) ∈ tb := tb_of (List.mem_of_getElem? (i := 371) rfl) rfl
theorem im_Model_differ : Cond.instanceMethod y_Model_differ ∈ tb := tb_of (by decide +kernel) (by decide +kernel)
theorem se_Model_differ : Cond.selects R_Model y_Model_differ y_Model_differ ∈ tb := tb_of (by decide +kernel) (by decide +kernel)
theorem cd_Model_isTaken : Cond.code y_Model_isTaken b_Model_isTaken 4 (some .boolean) ∈ tb := tb_of (List.mem_of_getElem? (i := 367) rfl) rfl
theorem im_Model_isTaken : Cond.instanceMethod y_Model_isTaken ∈ tb := tb_of (by decide +kernel) (by decide +kernel)
theorem se_Model_isTaken : Cond.selects R_Model y_Model_isTaken y_Model_isTaken ∈ tb := tb_of (by decide +kernel) (by decide +kernel)
theorem cd_Model_isFree : Cond.code y_Model_isFree b_Model_isFree 6 (some .boolean) ∈ tb := tb_of (List.mem_of_getElem? (i := 363) rfl) rfl
theorem im_Model_isFree : Cond.instanceMethod y_Model_isFree ∈ tb := tb_of (by decide +kernel) (by decide +kernel)
theorem se_Model_isFree : Cond.selects R_Model y_Model_isFree y_Model_isFree ∈ tb := tb_of (by decide +kernel) (by decide +kernel)
theorem cd_Model_give : Cond.code y_Model_give b_Model_give 6 (some .int) ∈ tb := tb_of (List.mem_of_getElem? (i := 347) rfl) rfl
theorem im_Model_give : Cond.instanceMethod y_Model_give ∈ tb := tb_of (by decide +kernel) (by decide +kernel)
theorem se_Model_give : Cond.selects R_Model y_Model_give y_Model_give ∈ tb := tb_of (by decide +kernel) (by decide +kernel)
theorem cd_Model_stateOf : Cond.code y_Model_stateOf b_Model_stateOf 2 (some .int) ∈ tb := tb_of (List.mem_of_getElem? (i := 388) rfl) rfl
theorem im_Model_stateOf : Cond.instanceMethod y_Model_stateOf ∈ tb := tb_of (by decide +kernel) (by decide +kernel)
theorem se_Model_stateOf : Cond.selects R_Model y_Model_stateOf y_Model_stateOf ∈ tb := tb_of (by decide +kernel) (by decide +kernel)
theorem cd_Model_take : Cond.code y_Model_take b_Model_take 6 none ∈ tb := tb_of (List.mem_of_getElem? (i := 384) rfl) rfl
theorem im_Model_take : Cond.instanceMethod y_Model_take ∈ tb := tb_of (by decide +kernel) (by decide +kernel)
theorem se_Model_take : Cond.selects R_Model y_Model_take y_Model_take ∈ tb := tb_of (by decide +kernel) (by decide +kernel)
theorem cd_Model_answer : Cond.code y_Model_answer b_Model_answer 6 (some .int) ∈ tb := tb_of (List.mem_of_getElem? (i := 375) rfl) rfl
theorem im_Model_answer : Cond.instanceMethod y_Model_answer ∈ tb := tb_of (by decide +kernel) (by decide +kernel)
theorem se_Model_answer : Cond.selects R_Model y_Model_answer y_Model_answer ∈ tb := tb_of (by decide +kernel) (by decide +kernel)
theorem cd_Model_office : Cond.code y_Model_office b_Model_office 5 (some .int) ∈ tb := tb_of (List.mem_of_getElem? (i := 392) rfl) rfl
theorem im_Model_office : Cond.instanceMethod y_Model_office ∈ tb := tb_of (by decide +kernel) (by decide +kernel)
theorem se_Model_office : Cond.selects R_Model y_Model_office y_Model_office ∈ tb := tb_of (by decide +kernel) (by decide +kernel)
theorem cd_Model_leave : Cond.code y_Model_leave b_Model_leave 3 (some .int) ∈ tb := tb_of (List.mem_of_getElem? (i := 397) rfl) rfl
theorem im_Model_leave : Cond.instanceMethod y_Model_leave ∈ tb := tb_of (by decide +kernel) (by decide +kernel)
theorem se_Model_leave : Cond.selects R_Model y_Model_leave y_Model_leave ∈ tb := tb_of (by decide +kernel) (by decide +kernel)
theorem cd_Model_tick : Cond.code y_Model_tick b_Model_tick 4 (some .int) ∈ tb := tb_of (List.mem_of_getElem? (i := 401) rfl) rfl
theorem im_Model_tick : Cond.instanceMethod y_Model_tick ∈ tb := tb_of (by decide +kernel) (by decide +kernel)
theorem se_Model_tick : Cond.selects R_Model y_Model_tick y_Model_tick ∈ tb := tb_of (by decide +kernel) (by decide +kernel)
theorem cd_Model_settled : Cond.code y_Model_settled b_Model_settled 2 (some .int) ∈ tb := tb_of (List.mem_of_getElem? (i := 405) rfl) rfl
theorem im_Model_settled : Cond.instanceMethod y_Model_settled ∈ tb := tb_of (by decide +kernel) (by decide +kernel)
theorem se_Model_settled : Cond.selects R_Model y_Model_settled y_Model_settled ∈ tb := tb_of (by decide +kernel) (by decide +kernel)
theorem cd_Model_state : Cond.code y_Model_state b_Model_state 2 (some .int) ∈ tb := tb_of (List.mem_of_getElem? (i := 409) rfl) rfl
theorem im_Model_state : Cond.instanceMethod y_Model_state ∈ tb := tb_of (by decide +kernel) (by decide +kernel)
theorem se_Model_state : Cond.selects R_Model y_Model_state y_Model_state ∈ tb := tb_of (by decide +kernel) (by decide +kernel)
theorem cd_Model_agreement : Cond.code y_Model_agreement b_Model_agreement 8 (some .long) ∈ tb := tb_of (List.mem_of_getElem? (i := 413) rfl) rfl
theorem im_Model_agreement : Cond.instanceMethod y_Model_agreement ∈ tb := tb_of (by decide +kernel) (by decide +kernel)
theorem se_Model_agreement : Cond.selects R_Model y_Model_agreement y_Model_agreement ∈ tb := tb_of (by decide +kernel) (by decide +kernel)
theorem cd_Model_waiting : Cond.code y_Model_waiting b_Model_waiting 1 (some .int) ∈ tb := tb_of (List.mem_of_getElem? (i := 419) rfl) rfl
theorem im_Model_waiting : Cond.instanceMethod y_Model_waiting ∈ tb := tb_of (by decide +kernel) (by decide +kernel)
theorem se_Model_waiting : Cond.selects R_Model y_Model_waiting y_Model_waiting ∈ tb := tb_of (by decide +kernel) (by decide +kernel)
theorem cd_Clerk_init : Cond.code y_Clerk_init b_Clerk_init 2 none ∈ tb := tb_of (List.mem_of_getElem? (i := 47) rfl) rfl
theorem im_Clerk_init : Cond.instanceMethod y_Clerk_init ∈ tb := tb_of (by decide +kernel) (by decide +kernel)
theorem cd_Picture_init : Cond.code y_Picture_init b_Picture_init 5 none ∈ tb := tb_of (List.mem_of_getElem? (i := 116) rfl) rfl
theorem im_Picture_init : Cond.instanceMethod y_Picture_init ∈ tb := tb_of (by decide +kernel) (by decide +kernel)
theorem cd_Picture_hasEnded : Cond.code y_Picture_hasEnded b_Picture_hasEnded 1 (some .boolean) ∈ tb := tb_of (List.mem_of_getElem? (i := 112) rfl) rfl
theorem im_Picture_hasEnded : Cond.instanceMethod y_Picture_hasEnded ∈ tb := tb_of (by decide +kernel) (by decide +kernel)
theorem se_Picture_hasEnded : Cond.selects R_Picture y_Picture_hasEnded y_Picture_hasEnded ∈ tb := tb_of (by decide +kernel) (by decide +kernel)
theorem cd_Picture_findState : Cond.code y_Picture_findState b_Picture_findState 1 (some .int) ∈ tb := tb_of (List.mem_of_getElem? (i := 231) rfl) rfl
theorem im_Picture_findState : Cond.instanceMethod y_Picture_findState ∈ tb := tb_of (by decide +kernel) (by decide +kernel)
theorem se_Picture_findState : Cond.selects R_Picture y_Picture_findState y_Picture_findState ∈ tb := tb_of (by decide +kernel) (by decide +kernel)
theorem cd_Picture_isFreeFor : Cond.code y_Picture_isFreeFor b_Picture_isFreeFor 2 (some .boolean) ∈ tb := tb_of (List.mem_of_getElem? (i := 166) rfl) rfl
theorem im_Picture_isFreeFor : Cond.instanceMethod y_Picture_isFreeFor ∈ tb := tb_of (by decide +kernel) (by decide +kernel)
theorem se_Picture_isFreeFor : Cond.selects R_Picture y_Picture_isFreeFor y_Picture_isFreeFor ∈ tb := tb_of (by decide +kernel) (by decide +kernel)
theorem cd_Picture_addTurn : Cond.code y_Picture_addTurn b_Picture_addTurn 2 (some (.object "ClerkRows$Turn")) ∈ tb := tb_of (List.mem_of_getElem? (i := 179) rfl) rfl
theorem im_Picture_addTurn : Cond.instanceMethod y_Picture_addTurn ∈ tb := tb_of (by decide +kernel) (by decide +kernel)
theorem se_Picture_addTurn : Cond.selects R_Picture y_Picture_addTurn y_Picture_addTurn ∈ tb := tb_of (by decide +kernel) (by decide +kernel)
theorem cd_Picture_takeEntry : Cond.code y_Picture_takeEntry b_Picture_takeEntry 4 none ∈ tb := tb_of (List.mem_of_getElem? (i := 219) rfl) rfl
theorem im_Picture_takeEntry : Cond.instanceMethod y_Picture_takeEntry ∈ tb := tb_of (by decide +kernel) (by decide +kernel)
theorem se_Picture_takeEntry : Cond.selects R_Picture y_Picture_takeEntry y_Picture_takeEntry ∈ tb := tb_of (by decide +kernel) (by decide +kernel)
theorem cd_Picture_findEntry : Cond.code y_Picture_findEntry b_Picture_findEntry 3 (some .int) ∈ tb := tb_of (List.mem_of_getElem? (i := 261) rfl) rfl
theorem im_Picture_findEntry : Cond.instanceMethod y_Picture_findEntry ∈ tb := tb_of (by decide +kernel) (by decide +kernel)
theorem se_Picture_findEntry : Cond.selects R_Picture y_Picture_findEntry y_Picture_findEntry ∈ tb := tb_of (by decide +kernel) (by decide +kernel)
theorem cd_Picture_endAlike : Cond.code y_Picture_endAlike b_Picture_endAlike 2 none ∈ tb := tb_of (List.mem_of_getElem? (i := 227) rfl) rfl
theorem im_Picture_endAlike : Cond.instanceMethod y_Picture_endAlike ∈ tb := tb_of (by decide +kernel) (by decide +kernel)
theorem se_Picture_endAlike : Cond.selects R_Picture y_Picture_endAlike y_Picture_endAlike ∈ tb := tb_of (by decide +kernel) (by decide +kernel)
theorem cd_Picture_hasEntry : Cond.code y_Picture_hasEntry b_Picture_hasEntry 3 (some .boolean) ∈ tb := tb_of (List.mem_of_getElem? (i := 223) rfl) rfl
theorem im_Picture_hasEntry : Cond.instanceMethod y_Picture_hasEntry ∈ tb := tb_of (by decide +kernel) (by decide +kernel)
theorem se_Picture_hasEntry : Cond.selects R_Picture y_Picture_hasEntry y_Picture_hasEntry ∈ tb := tb_of (by decide +kernel) (by decide +kernel)
theorem cd_Picture_isWanting : Cond.code y_Picture_isWanting b_Picture_isWanting 3 (some .boolean) ∈ tb := tb_of (List.mem_of_getElem? (i := 171) rfl) rfl
theorem im_Picture_isWanting : Cond.instanceMethod y_Picture_isWanting ∈ tb := tb_of (by decide +kernel) (by decide +kernel)
theorem se_Picture_isWanting : Cond.selects R_Picture y_Picture_isWanting y_Picture_isWanting ∈ tb := tb_of (by decide +kernel) (by decide +kernel)
theorem cd_Picture_isBarredBy : Cond.code y_Picture_isBarredBy b_Picture_isBarredBy 4 (some .boolean) ∈ tb := tb_of (List.mem_of_getElem? (i := 175) rfl) rfl
theorem im_Picture_isBarredBy : Cond.instanceMethod y_Picture_isBarredBy ∈ tb := tb_of (by decide +kernel) (by decide +kernel)
theorem se_Picture_isBarredBy : Cond.selects R_Picture y_Picture_isBarredBy y_Picture_isBarredBy ∈ tb := tb_of (by decide +kernel) (by decide +kernel)
theorem cd_Turn_init : Cond.code y_Turn_init b_Turn_init 4 none ∈ tb := tb_of (List.mem_of_getElem? (i := 184) rfl) rfl
theorem im_Turn_init : Cond.instanceMethod y_Turn_init ∈ tb := tb_of (by decide +kernel) (by decide +kernel)
theorem cd_Law_cell : Cond.code y_Law_cell b_Law_cell 2 (some .int) ∈ tb := tb_of (List.mem_of_getElem? (i := 265) rfl) rfl
theorem st_Law_cell : Cond.static y_Law_cell ∈ tb := tb_of (by decide +kernel) (by decide +kernel)
theorem im_obj : Cond.instanceMethod Lib.objectInit ∈ tb := tb_of (by decide +kernel) (by decide +kernel)
theorem cd_obj : Cond.code Lib.objectInit ⟨#[0xb1]⟩ 1 none ∈ tb := tb_of (List.mem_of_getElem? (i := 33) rfl) rfl
theorem sm_min : Cond.static Lib.Math.min.name ∈ tb := tb_of (by decide +kernel) (by decide +kernel)
theorem cd_min : Cond.code Lib.Math.min.name Lib.Math.min.code 2 (some .int) ∈ tb := tb_of (List.mem_of_getElem? (i := 40) rfl) rfl
theorem sm_max : Cond.static Lib.Math.max.name ∈ tb := tb_of (by decide +kernel) (by decide +kernel)
theorem cd_max : Cond.code Lib.Math.max.name Lib.Math.max.code 2 (some .int) ∈ tb := tb_of (List.mem_of_getElem? (i := 43) rfl) rfl
theorem ac_int : Cond.arrayClass .int ∈ tb := tb_of (by decide +kernel) (by decide +kernel)
theorem ac_long : Cond.arrayClass .long ∈ tb := tb_of (by decide +kernel) (by decide +kernel)
theorem ac_boolean : Cond.arrayClass .boolean ∈ tb := tb_of (by decide +kernel) (by decide +kernel)
theorem ml_ClerkRows_1 : Cond.methodLink R_ClerkRows 1 Lib.objectInit ∈ tb := tb_of (by decide +kernel) (by decide +kernel)
theorem cl_ClerkRows_9 : Cond.classLink R_ClerkRows 9 R_Picture ∈ tb := tb_of (by decide +kernel) (by decide +kernel)
theorem fl_ClerkRows_11 : Cond.fieldLink R_ClerkRows 11 R_ClerkRows "pictures" "[LClerkRows$Picture;" ∈ tb := tb_of (by decide +kernel) (by decide +kernel)
theorem cl_ClerkRows_15 : Cond.classLink R_ClerkRows 15 R_Clerk ∈ tb := tb_of (by decide +kernel) (by decide +kernel)
theorem fl_ClerkRows_17 : Cond.fieldLink R_ClerkRows 17 R_ClerkRows "clerks" "[LClerkRows$Clerk;" ∈ tb := tb_of (by decide +kernel) (by decide +kernel)
theorem fl_ClerkRows_21 : Cond.fieldLink R_ClerkRows 21 R_ClerkRows "made" "I" ∈ tb := tb_of (by decide +kernel) (by decide +kernel)
theorem fl_ClerkRows_25 : Cond.fieldLink R_ClerkRows 25 R_ClerkRows "now" "J" ∈ tb := tb_of (by decide +kernel) (by decide +kernel)
theorem fl_ClerkRows_29 : Cond.fieldLink R_ClerkRows 29 R_ClerkRows "lateSinceTick" "I" ∈ tb := tb_of (by decide +kernel) (by decide +kernel)
theorem ml_ClerkRows_32 : Cond.methodLink R_ClerkRows 32 Lib.Math.min.name ∈ tb := tb_of (by decide +kernel) (by decide +kernel)
theorem ml_ClerkRows_38 : Cond.methodLink R_ClerkRows 38 Lib.Math.max.name ∈ tb := tb_of (by decide +kernel) (by decide +kernel)
theorem fl_ClerkRows_41 : Cond.fieldLink R_ClerkRows 41 R_ClerkRows "mostOpen" "I" ∈ tb := tb_of (by decide +kernel) (by decide +kernel)
theorem ml_ClerkRows_44 : Cond.methodLink R_ClerkRows 44 y_Clerk_init ∈ tb := tb_of (by decide +kernel) (by decide +kernel)
theorem ml_ClerkRows_47 : Cond.methodLink R_ClerkRows 47 y_ClerkRows_isTime ∈ tb := tb_of (by decide +kernel) (by decide +kernel)
theorem ml_ClerkRows_51 : Cond.methodLink R_ClerkRows 51 y_ClerkRows_isWithin ∈ tb := tb_of (by decide +kernel) (by decide +kernel)
theorem ml_ClerkRows_55 : Cond.methodLink R_ClerkRows 55 y_ClerkRows_waiting ∈ tb := tb_of (by decide +kernel) (by decide +kernel)
theorem ml_ClerkRows_59 : Cond.methodLink R_ClerkRows 59 y_Picture_init ∈ tb := tb_of (by decide +kernel) (by decide +kernel)
theorem ml_ClerkRows_62 : Cond.methodLink R_ClerkRows 62 y_ClerkRows_findClerk ∈ tb := tb_of (by decide +kernel) (by decide +kernel)
theorem fl_ClerkRows_66 : Cond.fieldLink R_ClerkRows 66 R_Clerk "in" "Z" ∈ tb := tb_of (by decide +kernel) (by decide +kernel)
theorem fl_ClerkRows_70 : Cond.fieldLink R_ClerkRows 70 R_Clerk "turn" "LClerkRows$Turn;" ∈ tb := tb_of (by decide +kernel) (by decide +kernel)
theorem ml_ClerkRows_74 : Cond.methodLink R_ClerkRows 74 y_ClerkRows_passTo ∈ tb := tb_of (by decide +kernel) (by decide +kernel)
theorem ml_ClerkRows_78 : Cond.methodLink R_ClerkRows 78 y_ClerkRows_findGiven ∈ tb := tb_of (by decide +kernel) (by decide +kernel)
theorem ml_ClerkRows_82 : Cond.methodLink R_ClerkRows 82 y_Picture_addTurn ∈ tb := tb_of (by decide +kernel) (by decide +kernel)
theorem fl_ClerkRows_86 : Cond.fieldLink R_ClerkRows 86 R_Picture "number" "I" ∈ tb := tb_of (by decide +kernel) (by decide +kernel)
theorem ml_ClerkRows_89 : Cond.methodLink R_ClerkRows 89 y_ClerkRows_findPicture ∈ tb := tb_of (by decide +kernel) (by decide +kernel)
theorem fl_ClerkRows_93 : Cond.fieldLink R_ClerkRows 93 R_Turn "picture" "I" ∈ tb := tb_of (by decide +kernel) (by decide +kernel)
theorem ml_ClerkRows_98 : Cond.methodLink R_ClerkRows 98 y_Picture_takeEntry ∈ tb := tb_of (by decide +kernel) (by decide +kernel)
theorem ml_ClerkRows_102 : Cond.methodLink R_ClerkRows 102 y_Picture_findState ∈ tb := tb_of (by decide +kernel) (by decide +kernel)
theorem fl_ClerkRows_105 : Cond.fieldLink R_ClerkRows 105 R_Clerk "office" "I" ∈ tb := tb_of (by decide +kernel) (by decide +kernel)
theorem fl_ClerkRows_108 : Cond.fieldLink R_ClerkRows 108 R_Clerk "skill" "I" ∈ tb := tb_of (by decide +kernel) (by decide +kernel)
theorem fl_ClerkRows_111 : Cond.fieldLink R_ClerkRows 111 R_Turn "entry" "I" ∈ tb := tb_of (by decide +kernel) (by decide +kernel)
theorem ml_ClerkRows_114 : Cond.methodLink R_ClerkRows 114 y_Picture_hasEnded ∈ tb := tb_of (by decide +kernel) (by decide +kernel)
theorem fl_ClerkRows_118 : Cond.fieldLink R_ClerkRows 118 R_Picture "settledWith" "I" ∈ tb := tb_of (by decide +kernel) (by decide +kernel)
theorem k_ClerkRows_121 : Cond.constantLong R_ClerkRows 121 (-101) ∈ tb := tb_of (by decide +kernel) (by decide +kernel)
theorem k_ClerkRows_123 : Cond.constantLong R_ClerkRows 123 (-102) ∈ tb := tb_of (by decide +kernel) (by decide +kernel)
theorem ml_ClerkRows_125 : Cond.methodLink R_ClerkRows 125 y_Picture_findEntry ∈ tb := tb_of (by decide +kernel) (by decide +kernel)
theorem k_ClerkRows_129 : Cond.constantLong R_ClerkRows 129 1000000000 ∈ tb := tb_of (by decide +kernel) (by decide +kernel)
theorem fl_ClerkRows_131 : Cond.fieldLink R_ClerkRows 131 R_Picture "due" "J" ∈ tb := tb_of (by decide +kernel) (by decide +kernel)
theorem fl_ClerkRows_134 : Cond.fieldLink R_ClerkRows 134 R_Picture "end" "I" ∈ tb := tb_of (by decide +kernel) (by decide +kernel)
theorem ml_ClerkRows_137 : Cond.methodLink R_ClerkRows 137 y_Picture_isFreeFor ∈ tb := tb_of (by decide +kernel) (by decide +kernel)
theorem ml_Model_1 : Cond.methodLink R_Model 1 Lib.objectInit ∈ tb := tb_of (by decide +kernel) (by decide +kernel)
theorem fl_Model_7 : Cond.fieldLink R_Model 7 R_Model "dues" "[J" ∈ tb := tb_of (by decide +kernel) (by decide +kernel)
theorem fl_Model_13 : Cond.fieldLink R_Model 13 R_Model "skills" "[I" ∈ tb := tb_of (by decide +kernel) (by decide +kernel)
theorem fl_Model_17 : Cond.fieldLink R_Model 17 R_Model "ends" "[I" ∈ tb := tb_of (by decide +kernel) (by decide +kernel)
theorem fl_Model_20 : Cond.fieldLink R_Model 20 R_Model "settled" "[I" ∈ tb := tb_of (by decide +kernel) (by decide +kernel)
theorem fl_Model_23 : Cond.fieldLink R_Model 23 R_Model "answers" "[I" ∈ tb := tb_of (by decide +kernel) (by decide +kernel)
theorem fl_Model_26 : Cond.fieldLink R_Model 26 R_Model "entries" "[I" ∈ tb := tb_of (by decide +kernel) (by decide +kernel)
theorem fl_Model_29 : Cond.fieldLink R_Model 29 R_Model "did" "[I" ∈ tb := tb_of (by decide +kernel) (by decide +kernel)
theorem fl_Model_32 : Cond.fieldLink R_Model 32 R_Model "where" "[I" ∈ tb := tb_of (by decide +kernel) (by decide +kernel)
theorem fl_Model_35 : Cond.fieldLink R_Model 35 R_Model "said" "[I" ∈ tb := tb_of (by decide +kernel) (by decide +kernel)
theorem fl_Model_38 : Cond.fieldLink R_Model 38 R_Model "in" "[Z" ∈ tb := tb_of (by decide +kernel) (by decide +kernel)
theorem fl_Model_42 : Cond.fieldLink R_Model 42 R_Model "offices" "[I" ∈ tb := tb_of (by decide +kernel) (by decide +kernel)
theorem fl_Model_45 : Cond.fieldLink R_Model 45 R_Model "levels" "[I" ∈ tb := tb_of (by decide +kernel) (by decide +kernel)
theorem fl_Model_48 : Cond.fieldLink R_Model 48 R_Model "most" "I" ∈ tb := tb_of (by decide +kernel) (by decide +kernel)
theorem fl_Model_55 : Cond.fieldLink R_Model 55 R_Model "count" "I" ∈ tb := tb_of (by decide +kernel) (by decide +kernel)
theorem ml_Model_58 : Cond.methodLink R_Model 58 y_Model_isIn ∈ tb := tb_of (by decide +kernel) (by decide +kernel)
theorem k_Model_62 : Cond.constantLong R_Model 62 19 ∈ tb := tb_of (by decide +kernel) (by decide +kernel)
theorem fl_Model_64 : Cond.fieldLink R_Model 64 R_Model "now" "J" ∈ tb := tb_of (by decide +kernel) (by decide +kernel)
theorem k_Model_68 : Cond.constantLong R_Model 68 1000000000 ∈ tb := tb_of (by decide +kernel) (by decide +kernel)
theorem fl_Model_52 : Cond.fieldLink R_Model 52 R_Model "thrown" "I" ∈ tb := tb_of (by decide +kernel) (by decide +kernel)
theorem ml_Model_70 : Cond.methodLink R_Model 70 y_Model_isTime ∈ tb := tb_of (by decide +kernel) (by decide +kernel)
theorem k_Model_74 : Cond.constantLong R_Model 74 3 ∈ tb := tb_of (by decide +kernel) (by decide +kernel)
theorem ml_Model_76 : Cond.methodLink R_Model 76 y_Model_open ∈ tb := tb_of (by decide +kernel) (by decide +kernel)
theorem fl_Model_80 : Cond.fieldLink R_Model 80 R_Model "late" "I" ∈ tb := tb_of (by decide +kernel) (by decide +kernel)
theorem ml_Model_83 : Cond.methodLink R_Model 83 y_Model_differ ∈ tb := tb_of (by decide +kernel) (by decide +kernel)
theorem ml_Model_87 : Cond.methodLink R_Model 87 y_Model_isTaken ∈ tb := tb_of (by decide +kernel) (by decide +kernel)
theorem ml_Model_90 : Cond.methodLink R_Model 90 y_Model_isClerk ∈ tb := tb_of (by decide +kernel) (by decide +kernel)
theorem ml_Model_93 : Cond.methodLink R_Model 93 y_Model_held ∈ tb := tb_of (by decide +kernel) (by decide +kernel)
theorem ml_Model_97 : Cond.methodLink R_Model 97 y_Model_pass ∈ tb := tb_of (by decide +kernel) (by decide +kernel)
theorem ml_Model_101 : Cond.methodLink R_Model 101 y_Model_isFree ∈ tb := tb_of (by decide +kernel) (by decide +kernel)
theorem ml_Model_105 : Cond.methodLink R_Model 105 y_Model_isPicture ∈ tb := tb_of (by decide +kernel) (by decide +kernel)
theorem k_Model_108 : Cond.constantLong R_Model 108 9999 ∈ tb := tb_of (by decide +kernel) (by decide +kernel)
theorem ml_Model_110 : Cond.methodLink R_Model 110 y_Model_take ∈ tb := tb_of (by decide +kernel) (by decide +kernel)
theorem ml_Model_114 : Cond.methodLink R_Model 114 y_Model_stateOf ∈ tb := tb_of (by decide +kernel) (by decide +kernel)
theorem k_Model_117 : Cond.constantLong R_Model 117 4 ∈ tb := tb_of (by decide +kernel) (by decide +kernel)
theorem k_Model_119 : Cond.constantLong R_Model 119 (-101) ∈ tb := tb_of (by decide +kernel) (by decide +kernel)
theorem k_Model_121 : Cond.constantLong R_Model 121 (-102) ∈ tb := tb_of (by decide +kernel) (by decide +kernel)
theorem ml_Clerk_1 : Cond.methodLink R_Clerk 1 Lib.objectInit ∈ tb := tb_of (by decide +kernel) (by decide +kernel)
theorem fl_Clerk_7 : Cond.fieldLink R_Clerk 7 R_Clerk "in" "Z" ∈ tb := tb_of (by decide +kernel) (by decide +kernel)
theorem fl_Clerk_13 : Cond.fieldLink R_Clerk 13 R_Clerk "office" "I" ∈ tb := tb_of (by decide +kernel) (by decide +kernel)
theorem fl_Clerk_17 : Cond.fieldLink R_Clerk 17 R_Clerk "skill" "I" ∈ tb := tb_of (by decide +kernel) (by decide +kernel)
theorem fl_Clerk_20 : Cond.fieldLink R_Clerk 20 R_Clerk "turn" "LClerkRows$Turn;" ∈ tb := tb_of (by decide +kernel) (by decide +kernel)
theorem fl_Clerk_24 : Cond.fieldLink R_Clerk 24 R_Clerk "number" "I" ∈ tb := tb_of (by decide +kernel) (by decide +kernel)
theorem ml_Picture_3 : Cond.methodLink R_Picture 3 Lib.objectInit ∈ tb := tb_of (by decide +kernel) (by decide +kernel)
theorem fl_Picture_9 : Cond.fieldLink R_Picture 9 R_Picture "wants" "I" ∈ tb := tb_of (by decide +kernel) (by decide +kernel)
theorem fl_Picture_15 : Cond.fieldLink R_Picture 15 R_Picture "answers" "I" ∈ tb := tb_of (by decide +kernel) (by decide +kernel)
theorem fl_Picture_18 : Cond.fieldLink R_Picture 18 R_Picture "end" "I" ∈ tb := tb_of (by decide +kernel) (by decide +kernel)
theorem fl_Picture_21 : Cond.fieldLink R_Picture 21 R_Picture "settledWith" "I" ∈ tb := tb_of (by decide +kernel) (by decide +kernel)
theorem fl_Picture_24 : Cond.fieldLink R_Picture 24 R_Picture "last" "LClerkRows$Turn;" ∈ tb := tb_of (by decide +kernel) (by decide +kernel)
theorem fl_Picture_28 : Cond.fieldLink R_Picture 28 R_Picture "number" "I" ∈ tb := tb_of (by decide +kernel) (by decide +kernel)
theorem fl_Picture_31 : Cond.fieldLink R_Picture 31 R_Picture "due" "J" ∈ tb := tb_of (by decide +kernel) (by decide +kernel)
theorem fl_Picture_35 : Cond.fieldLink R_Picture 35 R_Picture "skill" "I" ∈ tb := tb_of (by decide +kernel) (by decide +kernel)
theorem ml_Picture_38 : Cond.methodLink R_Picture 38 y_Picture_hasEnded ∈ tb := tb_of (by decide +kernel) (by decide +kernel)
theorem ml_Picture_42 : Cond.methodLink R_Picture 42 y_Picture_isWanting ∈ tb := tb_of (by decide +kernel) (by decide +kernel)
theorem fl_Picture_45 : Cond.fieldLink R_Picture 45 R_Clerk "skill" "I" ∈ tb := tb_of (by decide +kernel) (by decide +kernel)
theorem ml_Picture_48 : Cond.methodLink R_Picture 48 y_Picture_isBarredBy ∈ tb := tb_of (by decide +kernel) (by decide +kernel)
theorem cl_Picture_52 : Cond.classLink R_Picture 52 R_Turn ∈ tb := tb_of (by decide +kernel) (by decide +kernel)
theorem ml_Picture_54 : Cond.methodLink R_Picture 54 y_Turn_init ∈ tb := tb_of (by decide +kernel) (by decide +kernel)
theorem ml_Picture_57 : Cond.methodLink R_Picture 57 y_Picture_hasEntry ∈ tb := tb_of (by decide +kernel) (by decide +kernel)
theorem fl_Picture_61 : Cond.fieldLink R_Picture 61 R_Turn "entry" "I" ∈ tb := tb_of (by decide +kernel) (by decide +kernel)
theorem ml_Picture_64 : Cond.methodLink R_Picture 64 y_Picture_endAlike ∈ tb := tb_of (by decide +kernel) (by decide +kernel)
theorem fl_Picture_68 : Cond.fieldLink R_Picture 68 R_Turn "clerk" "I" ∈ tb := tb_of (by decide +kernel) (by decide +kernel)
theorem fl_Picture_71 : Cond.fieldLink R_Picture 71 R_Turn "earlier" "LClerkRows$Turn;" ∈ tb := tb_of (by decide +kernel) (by decide +kernel)
theorem fl_Picture_74 : Cond.fieldLink R_Picture 74 R_Turn "office" "I" ∈ tb := tb_of (by decide +kernel) (by decide +kernel)
theorem fl_Picture_77 : Cond.fieldLink R_Picture 77 R_Clerk "office" "I" ∈ tb := tb_of (by decide +kernel) (by decide +kernel)
theorem fl_Picture_78 : Cond.fieldLink R_Picture 78 R_Clerk "number" "I" ∈ tb := tb_of (by decide +kernel) (by decide +kernel)
theorem ml_Turn_3 : Cond.methodLink R_Turn 3 Lib.objectInit ∈ tb := tb_of (by decide +kernel) (by decide +kernel)
theorem fl_Turn_9 : Cond.fieldLink R_Turn 9 R_Turn "entry" "I" ∈ tb := tb_of (by decide +kernel) (by decide +kernel)
theorem fl_Turn_15 : Cond.fieldLink R_Turn 15 R_Turn "picture" "I" ∈ tb := tb_of (by decide +kernel) (by decide +kernel)
theorem fl_Turn_18 : Cond.fieldLink R_Turn 18 R_Clerk "number" "I" ∈ tb := tb_of (by decide +kernel) (by decide +kernel)
theorem fl_Turn_23 : Cond.fieldLink R_Turn 23 R_Turn "clerk" "I" ∈ tb := tb_of (by decide +kernel) (by decide +kernel)
theorem fl_Turn_26 : Cond.fieldLink R_Turn 26 R_Clerk "office" "I" ∈ tb := tb_of (by decide +kernel) (by decide +kernel)
theorem fl_Turn_29 : Cond.fieldLink R_Turn 29 R_Turn "office" "I" ∈ tb := tb_of (by decide +kernel) (by decide +kernel)
theorem fl_Turn_30 : Cond.fieldLink R_Turn 30 R_Turn "earlier" "LClerkRows$Turn;" ∈ tb := tb_of (by decide +kernel) (by decide +kernel)
theorem cl_Law_7 : Cond.classLink R_Law 7 R_ClerkRows ∈ tb := tb_of (by decide +kernel) (by decide +kernel)
theorem ml_Law_9 : Cond.methodLink R_Law 9 y_Law_cell ∈ tb := tb_of (by decide +kernel) (by decide +kernel)
theorem ml_Law_15 : Cond.methodLink R_Law 15 y_ClerkRows_init ∈ tb := tb_of (by decide +kernel) (by decide +kernel)
theorem cl_Law_18 : Cond.classLink R_Law 18 R_Model ∈ tb := tb_of (by decide +kernel) (by decide +kernel)
theorem ml_Law_20 : Cond.methodLink R_Law 20 y_Model_init ∈ tb := tb_of (by decide +kernel) (by decide +kernel)
theorem k_Law_21 : Cond.constantLong R_Law 21 4294967295 ∈ tb := tb_of (by decide +kernel) (by decide +kernel)
theorem ml_Law_23 : Cond.methodLink R_Law 23 y_ClerkRows_picture ∈ tb := tb_of (by decide +kernel) (by decide +kernel)
theorem ml_Law_27 : Cond.methodLink R_Law 27 y_Model_picture ∈ tb := tb_of (by decide +kernel) (by decide +kernel)
theorem ml_Law_28 : Cond.methodLink R_Law 28 y_ClerkRows_give ∈ tb := tb_of (by decide +kernel) (by decide +kernel)
theorem ml_Law_32 : Cond.methodLink R_Law 32 y_Model_give ∈ tb := tb_of (by decide +kernel) (by decide +kernel)
theorem ml_Law_33 : Cond.methodLink R_Law 33 y_ClerkRows_answer ∈ tb := tb_of (by decide +kernel) (by decide +kernel)
theorem ml_Law_37 : Cond.methodLink R_Law 37 y_Model_answer ∈ tb := tb_of (by decide +kernel) (by decide +kernel)
theorem ml_Law_38 : Cond.methodLink R_Law 38 y_ClerkRows_office ∈ tb := tb_of (by decide +kernel) (by decide +kernel)
theorem ml_Law_42 : Cond.methodLink R_Law 42 y_Model_office ∈ tb := tb_of (by decide +kernel) (by decide +kernel)
theorem ml_Law_43 : Cond.methodLink R_Law 43 y_ClerkRows_leave ∈ tb := tb_of (by decide +kernel) (by decide +kernel)
theorem ml_Law_47 : Cond.methodLink R_Law 47 y_Model_leave ∈ tb := tb_of (by decide +kernel) (by decide +kernel)
theorem ml_Law_48 : Cond.methodLink R_Law 48 y_ClerkRows_tick ∈ tb := tb_of (by decide +kernel) (by decide +kernel)
theorem ml_Law_52 : Cond.methodLink R_Law 52 y_Model_tick ∈ tb := tb_of (by decide +kernel) (by decide +kernel)
theorem ml_Law_53 : Cond.methodLink R_Law 53 y_ClerkRows_settled ∈ tb := tb_of (by decide +kernel) (by decide +kernel)
theorem ml_Law_56 : Cond.methodLink R_Law 56 y_Model_settled ∈ tb := tb_of (by decide +kernel) (by decide +kernel)
theorem ml_Law_57 : Cond.methodLink R_Law 57 y_ClerkRows_state ∈ tb := tb_of (by decide +kernel) (by decide +kernel)
theorem ml_Law_60 : Cond.methodLink R_Law 60 y_Model_state ∈ tb := tb_of (by decide +kernel) (by decide +kernel)
theorem ml_Law_61 : Cond.methodLink R_Law 61 y_ClerkRows_agreement ∈ tb := tb_of (by decide +kernel) (by decide +kernel)
theorem ml_Law_65 : Cond.methodLink R_Law 65 y_Model_agreement ∈ tb := tb_of (by decide +kernel) (by decide +kernel)
theorem ml_Law_66 : Cond.methodLink R_Law 66 y_ClerkRows_waiting ∈ tb := tb_of (by decide +kernel) (by decide +kernel)
theorem ml_Law_70 : Cond.methodLink R_Law 70 y_Model_waiting ∈ tb := tb_of (by decide +kernel) (by decide +kernel)
end
section
theorem cw_ClerkRows_44 {R : Room} {s : State} {args : Array Value} {rm : Room} {mc ms : Nat} (ht : ∀ w ∈ tb, w.before args s = true) (hrc : rm.cells = mc) (hrs : rm.slots = ms) (hR : rm.frames + 1 ≤ R.frames ∧ 8 + (2 + 11) + rm.locals ≤ R.locals) : CallB R s args R_ClerkRows 44 y_Clerk_init b_Clerk_init 2 none (.code y_Clerk_init b_Clerk_init 2 none :: tb) rm mc ms 1 ∧ (y_Clerk_init).name = "<init>" ∧ (Cond.instanceMethod y_Clerk_init).before args s = true :=
  cwI 1 ht (gd_0 cd_Clerk_init) rfl hrc hrs (ht _ in_Clerk) (ht _ ml_ClerkRows_44) (ht _ im_Clerk_init) rfl (by decide +kernel) hR
theorem cw_ClerkRows_47 {R : Room} {s : State} {args : Array Value} {rm : Room} {mc ms : Nat} (ht : ∀ w ∈ tb, w.before args s = true) (hrc : rm.cells = mc) (hrs : rm.slots = ms) (hR : rm.frames + 1 ≤ R.frames ∧ 8 + (3 + 11) + rm.locals ≤ R.locals) : CallW R s args R_ClerkRows R_ClerkRows 47 y_ClerkRows_isTime b_ClerkRows_isTime 3 (some .boolean) (.code y_ClerkRows_isTime b_ClerkRows_isTime 3 (some .boolean) :: tb) rm mc ms 1 :=
  cwV 1 ht (gd_V ml_ClerkRows_47 im_ClerkRows_isTime se_ClerkRows_isTime in_ClerkRows cd_ClerkRows_isTime) rfl hrc hrs (by decide +kernel) hR
theorem cw_ClerkRows_51 {R : Room} {s : State} {args : Array Value} {rm : Room} {mc ms : Nat} (ht : ∀ w ∈ tb, w.before args s = true) (hrc : rm.cells = mc) (hrs : rm.slots = ms) (hR : rm.frames + 1 ≤ R.frames ∧ 8 + (2 + 11) + rm.locals ≤ R.locals) : CallB R s args R_ClerkRows 51 y_ClerkRows_isWithin b_ClerkRows_isWithin 2 (some .boolean) (.code y_ClerkRows_isWithin b_ClerkRows_isWithin 2 (some .boolean) :: tb) rm mc ms 2 ∧ (Cond.static y_ClerkRows_isWithin).before args s = true :=
  cwS 2 ht (gd_S ml_ClerkRows_51 st_ClerkRows_isWithin in_ClerkRows cd_ClerkRows_isWithin) rfl hrc hrs (by decide +kernel) hR
theorem cw_ClerkRows_55 {R : Room} {s : State} {args : Array Value} {rm : Room} {mc ms : Nat} (ht : ∀ w ∈ tb, w.before args s = true) (hrc : rm.cells = mc) (hrs : rm.slots = ms) (hR : rm.frames + 1 ≤ R.frames ∧ 8 + (6 + 11) + rm.locals ≤ R.locals) : CallW R s args R_ClerkRows R_ClerkRows 55 y_ClerkRows_waiting b_ClerkRows_waiting 6 (some .int) (.code y_ClerkRows_waiting b_ClerkRows_waiting 6 (some .int) :: tb) rm mc ms 0 :=
  cwV 0 ht (gd_V ml_ClerkRows_55 im_ClerkRows_waiting se_ClerkRows_waiting in_ClerkRows cd_ClerkRows_waiting) rfl hrc hrs (by decide +kernel) hR
theorem cw_ClerkRows_59 {R : Room} {s : State} {args : Array Value} {rm : Room} {mc ms : Nat} (ht : ∀ w ∈ tb, w.before args s = true) (hrc : rm.cells = mc) (hrs : rm.slots = ms) (hR : rm.frames + 1 ≤ R.frames ∧ 8 + (5 + 11) + rm.locals ≤ R.locals) : CallB R s args R_ClerkRows 59 y_Picture_init b_Picture_init 5 none (.code y_Picture_init b_Picture_init 5 none :: tb) rm mc ms 3 ∧ (y_Picture_init).name = "<init>" ∧ (Cond.instanceMethod y_Picture_init).before args s = true :=
  cwI 3 ht (gd_0 cd_Picture_init) rfl hrc hrs (ht _ in_Picture) (ht _ ml_ClerkRows_59) (ht _ im_Picture_init) rfl (by decide +kernel) hR
theorem cw_ClerkRows_62 {R : Room} {s : State} {args : Array Value} {rm : Room} {mc ms : Nat} (ht : ∀ w ∈ tb, w.before args s = true) (hrc : rm.cells = mc) (hrs : rm.slots = ms) (hR : rm.frames + 1 ≤ R.frames ∧ 8 + (2 + 11) + rm.locals ≤ R.locals) : CallW R s args R_ClerkRows R_ClerkRows 62 y_ClerkRows_findClerk b_ClerkRows_findClerk 2 (some (.object "ClerkRows$Clerk")) (.code y_ClerkRows_findClerk b_ClerkRows_findClerk 2 (some (.object "ClerkRows$Clerk")) :: tb) rm mc ms 1 :=
  cwV 1 ht (gd_V ml_ClerkRows_62 im_ClerkRows_findClerk se_ClerkRows_findClerk in_ClerkRows cd_ClerkRows_findClerk) rfl hrc hrs (by decide +kernel) hR
theorem cw_ClerkRows_74 {R : Room} {s : State} {args : Array Value} {rm : Room} {mc ms : Nat} (ht : ∀ w ∈ tb, w.before args s = true) (hrc : rm.cells = mc) (hrs : rm.slots = ms) (hR : rm.frames + 1 ≤ R.frames ∧ 8 + (7 + 11) + rm.locals ≤ R.locals) : CallW R s args R_ClerkRows R_ClerkRows 74 y_ClerkRows_passTo b_ClerkRows_passTo 7 none (.code y_ClerkRows_passTo b_ClerkRows_passTo 7 none :: tb) rm mc ms 1 :=
  cwV 1 ht (gd_V ml_ClerkRows_74 im_ClerkRows_passTo se_ClerkRows_passTo in_ClerkRows cd_ClerkRows_passTo) rfl hrc hrs (by decide +kernel) hR
theorem cw_ClerkRows_78 {R : Room} {s : State} {args : Array Value} {rm : Room} {mc ms : Nat} (ht : ∀ w ∈ tb, w.before args s = true) (hrc : rm.cells = mc) (hrs : rm.slots = ms) (hR : rm.frames + 1 ≤ R.frames ∧ 8 + (7 + 11) + rm.locals ≤ R.locals) : CallW R s args R_ClerkRows R_ClerkRows 78 y_ClerkRows_findGiven b_ClerkRows_findGiven 7 (some (.object "ClerkRows$Picture")) (.code y_ClerkRows_findGiven b_ClerkRows_findGiven 7 (some (.object "ClerkRows$Picture")) :: tb) rm mc ms 1 :=
  cwV 1 ht (gd_V ml_ClerkRows_78 im_ClerkRows_findGiven se_ClerkRows_findGiven in_ClerkRows cd_ClerkRows_findGiven) rfl hrc hrs (by decide +kernel) hR
theorem cw_ClerkRows_82 {R : Room} {s : State} {args : Array Value} {rm : Room} {mc ms : Nat} (ht : ∀ w ∈ tb, w.before args s = true) (hrc : rm.cells = mc) (hrs : rm.slots = ms) (hR : rm.frames + 1 ≤ R.frames ∧ 8 + (2 + 11) + rm.locals ≤ R.locals) : CallW R s args R_ClerkRows R_Picture 82 y_Picture_addTurn b_Picture_addTurn 2 (some (.object "ClerkRows$Turn")) (.code y_Picture_addTurn b_Picture_addTurn 2 (some (.object "ClerkRows$Turn")) :: tb) rm mc ms 1 :=
  cwV 1 ht (gd_V ml_ClerkRows_82 im_Picture_addTurn se_Picture_addTurn in_Picture cd_Picture_addTurn) rfl hrc hrs (by decide +kernel) hR
theorem cw_ClerkRows_89 {R : Room} {s : State} {args : Array Value} {rm : Room} {mc ms : Nat} (ht : ∀ w ∈ tb, w.before args s = true) (hrc : rm.cells = mc) (hrs : rm.slots = ms) (hR : rm.frames + 1 ≤ R.frames ∧ 8 + (2 + 11) + rm.locals ≤ R.locals) : CallW R s args R_ClerkRows R_ClerkRows 89 y_ClerkRows_findPicture b_ClerkRows_findPicture 2 (some (.object "ClerkRows$Picture")) (.code y_ClerkRows_findPicture b_ClerkRows_findPicture 2 (some (.object "ClerkRows$Picture")) :: tb) rm mc ms 1 :=
  cwV 1 ht (gd_V ml_ClerkRows_89 im_ClerkRows_findPicture se_ClerkRows_findPicture in_ClerkRows cd_ClerkRows_findPicture) rfl hrc hrs (by decide +kernel) hR
theorem cw_ClerkRows_98 {R : Room} {s : State} {args : Array Value} {rm : Room} {mc ms : Nat} (ht : ∀ w ∈ tb, w.before args s = true) (hrc : rm.cells = mc) (hrs : rm.slots = ms) (hR : rm.frames + 1 ≤ R.frames ∧ 8 + (4 + 11) + rm.locals ≤ R.locals) : CallW R s args R_ClerkRows R_Picture 98 y_Picture_takeEntry b_Picture_takeEntry 4 none (.code y_Picture_takeEntry b_Picture_takeEntry 4 none :: tb) rm mc ms 2 :=
  cwV 2 ht (gd_V ml_ClerkRows_98 im_Picture_takeEntry se_Picture_takeEntry in_Picture cd_Picture_takeEntry) rfl hrc hrs (by decide +kernel) hR
theorem cw_ClerkRows_102 {R : Room} {s : State} {args : Array Value} {rm : Room} {mc ms : Nat} (ht : ∀ w ∈ tb, w.before args s = true) (hrc : rm.cells = mc) (hrs : rm.slots = ms) (hR : rm.frames + 1 ≤ R.frames ∧ 8 + (1 + 11) + rm.locals ≤ R.locals) : CallW R s args R_ClerkRows R_Picture 102 y_Picture_findState b_Picture_findState 1 (some .int) (.code y_Picture_findState b_Picture_findState 1 (some .int) :: tb) rm mc ms 0 :=
  cwV 0 ht (gd_V ml_ClerkRows_102 im_Picture_findState se_Picture_findState in_Picture cd_Picture_findState) rfl hrc hrs (by decide +kernel) hR
theorem cw_ClerkRows_114 {R : Room} {s : State} {args : Array Value} {rm : Room} {mc ms : Nat} (ht : ∀ w ∈ tb, w.before args s = true) (hrc : rm.cells = mc) (hrs : rm.slots = ms) (hR : rm.frames + 1 ≤ R.frames ∧ 8 + (1 + 11) + rm.locals ≤ R.locals) : CallW R s args R_ClerkRows R_Picture 114 y_Picture_hasEnded b_Picture_hasEnded 1 (some .boolean) (.code y_Picture_hasEnded b_Picture_hasEnded 1 (some .boolean) :: tb) rm mc ms 0 :=
  cwV 0 ht (gd_V ml_ClerkRows_114 im_Picture_hasEnded se_Picture_hasEnded in_Picture cd_Picture_hasEnded) rfl hrc hrs (by decide +kernel) hR
theorem cw_ClerkRows_125 {R : Room} {s : State} {args : Array Value} {rm : Room} {mc ms : Nat} (ht : ∀ w ∈ tb, w.before args s = true) (hrc : rm.cells = mc) (hrs : rm.slots = ms) (hR : rm.frames + 1 ≤ R.frames ∧ 8 + (3 + 11) + rm.locals ≤ R.locals) : CallW R s args R_ClerkRows R_Picture 125 y_Picture_findEntry b_Picture_findEntry 3 (some .int) (.code y_Picture_findEntry b_Picture_findEntry 3 (some .int) :: tb) rm mc ms 1 :=
  cwV 1 ht (gd_V ml_ClerkRows_125 im_Picture_findEntry se_Picture_findEntry in_Picture cd_Picture_findEntry) rfl hrc hrs (by decide +kernel) hR
theorem cw_ClerkRows_137 {R : Room} {s : State} {args : Array Value} {rm : Room} {mc ms : Nat} (ht : ∀ w ∈ tb, w.before args s = true) (hrc : rm.cells = mc) (hrs : rm.slots = ms) (hR : rm.frames + 1 ≤ R.frames ∧ 8 + (2 + 11) + rm.locals ≤ R.locals) : CallW R s args R_ClerkRows R_Picture 137 y_Picture_isFreeFor b_Picture_isFreeFor 2 (some .boolean) (.code y_Picture_isFreeFor b_Picture_isFreeFor 2 (some .boolean) :: tb) rm mc ms 1 :=
  cwV 1 ht (gd_V ml_ClerkRows_137 im_Picture_isFreeFor se_Picture_isFreeFor in_Picture cd_Picture_isFreeFor) rfl hrc hrs (by decide +kernel) hR
theorem cw_Model_58 {R : Room} {s : State} {args : Array Value} {rm : Room} {mc ms : Nat} (ht : ∀ w ∈ tb, w.before args s = true) (hrc : rm.cells = mc) (hrs : rm.slots = ms) (hR : rm.frames + 1 ≤ R.frames ∧ 8 + (6 + 11) + rm.locals ≤ R.locals) : CallB R s args R_Model 58 y_Model_isIn b_Model_isIn 6 (some .boolean) (.code y_Model_isIn b_Model_isIn 6 (some .boolean) :: tb) rm mc ms 3 ∧ (Cond.static y_Model_isIn).before args s = true :=
  cwS 3 ht (gd_S ml_Model_58 st_Model_isIn in_Model cd_Model_isIn) rfl hrc hrs (by decide +kernel) hR
theorem cw_Model_70 {R : Room} {s : State} {args : Array Value} {rm : Room} {mc ms : Nat} (ht : ∀ w ∈ tb, w.before args s = true) (hrc : rm.cells = mc) (hrs : rm.slots = ms) (hR : rm.frames + 1 ≤ R.frames ∧ 8 + (3 + 11) + rm.locals ≤ R.locals) : CallW R s args R_Model R_Model 70 y_Model_isTime b_Model_isTime 3 (some .boolean) (.code y_Model_isTime b_Model_isTime 3 (some .boolean) :: tb) rm mc ms 1 :=
  cwV 1 ht (gd_V ml_Model_70 im_Model_isTime se_Model_isTime in_Model cd_Model_isTime) rfl hrc hrs (by decide +kernel) hR
theorem cw_Model_76 {R : Room} {s : State} {args : Array Value} {rm : Room} {mc ms : Nat} (ht : ∀ w ∈ tb, w.before args s = true) (hrc : rm.cells = mc) (hrs : rm.slots = ms) (hR : rm.frames + 1 ≤ R.frames ∧ 8 + (3 + 11) + rm.locals ≤ R.locals) : CallW R s args R_Model R_Model 76 y_Model_open b_Model_open 3 (some .int) (.code y_Model_open b_Model_open 3 (some .int) :: tb) rm mc ms 0 :=
  cwV 0 ht (gd_V ml_Model_76 im_Model_open se_Model_open in_Model cd_Model_open) rfl hrc hrs (by decide +kernel) hR
theorem cw_Model_83 {R : Room} {s : State} {args : Array Value} {rm : Room} {mc ms : Nat} (ht : ∀ w ∈ tb, w.before args s = true) (hrc : rm.cells = mc) (hrs : rm.slots = ms) (hR : rm.frames + 1 ≤ R.frames ∧ 8 + (2 + 11) + rm.locals ≤ R.locals) : CallW R s args R_Model R_Model 83 y_Model_differ b_Model_differ 2 (some .boolean) (.code y_Model_differ b_Model_differ 2 (some .boolean) :: tb) rm mc ms 1 :=
  cwV 1 ht (gd_V ml_Model_83 im_Model_differ se_Model_differ in_Model cd_Model_differ) rfl hrc hrs (by decide +kernel) hR
theorem cw_Model_87 {R : Room} {s : State} {args : Array Value} {rm : Room} {mc ms : Nat} (ht : ∀ w ∈ tb, w.before args s = true) (hrc : rm.cells = mc) (hrs : rm.slots = ms) (hR : rm.frames + 1 ≤ R.frames ∧ 8 + (4 + 11) + rm.locals ≤ R.locals) : CallW R s args R_Model R_Model 87 y_Model_isTaken b_Model_isTaken 4 (some .boolean) (.code y_Model_isTaken b_Model_isTaken 4 (some .boolean) :: tb) rm mc ms 1 :=
  cwV 1 ht (gd_V ml_Model_87 im_Model_isTaken se_Model_isTaken in_Model cd_Model_isTaken) rfl hrc hrs (by decide +kernel) hR
theorem cw_Model_90 {R : Room} {s : State} {args : Array Value} {rm : Room} {mc ms : Nat} (ht : ∀ w ∈ tb, w.before args s = true) (hrc : rm.cells = mc) (hrs : rm.slots = ms) (hR : rm.frames + 1 ≤ R.frames ∧ 8 + (1 + 11) + rm.locals ≤ R.locals) : CallB R s args R_Model 90 y_Model_isClerk b_Model_isClerk 1 (some .boolean) (.code y_Model_isClerk b_Model_isClerk 1 (some .boolean) :: tb) rm mc ms 1 ∧ (Cond.static y_Model_isClerk).before args s = true :=
  cwS 1 ht (gd_S ml_Model_90 st_Model_isClerk in_Model cd_Model_isClerk) rfl hrc hrs (by decide +kernel) hR
theorem cw_Model_93 {R : Room} {s : State} {args : Array Value} {rm : Room} {mc ms : Nat} (ht : ∀ w ∈ tb, w.before args s = true) (hrc : rm.cells = mc) (hrs : rm.slots = ms) (hR : rm.frames + 1 ≤ R.frames ∧ 8 + (4 + 11) + rm.locals ≤ R.locals) : CallW R s args R_Model R_Model 93 y_Model_held b_Model_held 4 (some .int) (.code y_Model_held b_Model_held 4 (some .int) :: tb) rm mc ms 1 :=
  cwV 1 ht (gd_V ml_Model_93 im_Model_held se_Model_held in_Model cd_Model_held) rfl hrc hrs (by decide +kernel) hR
theorem cw_Model_97 {R : Room} {s : State} {args : Array Value} {rm : Room} {mc ms : Nat} (ht : ∀ w ∈ tb, w.before args s = true) (hrc : rm.cells = mc) (hrs : rm.slots = ms) (hR : rm.frames + 1 ≤ R.frames ∧ 8 + (4 + 11) + rm.locals ≤ R.locals) : CallW R s args R_Model R_Model 97 y_Model_pass b_Model_pass 4 none (.code y_Model_pass b_Model_pass 4 none :: tb) rm mc ms 1 :=
  cwV 1 ht (gd_V ml_Model_97 im_Model_pass se_Model_pass in_Model cd_Model_pass) rfl hrc hrs (by decide +kernel) hR
theorem cw_Model_101 {R : Room} {s : State} {args : Array Value} {rm : Room} {mc ms : Nat} (ht : ∀ w ∈ tb, w.before args s = true) (hrc : rm.cells = mc) (hrs : rm.slots = ms) (hR : rm.frames + 1 ≤ R.frames ∧ 8 + (6 + 11) + rm.locals ≤ R.locals) : CallW R s args R_Model R_Model 101 y_Model_isFree b_Model_isFree 6 (some .boolean) (.code y_Model_isFree b_Model_isFree 6 (some .boolean) :: tb) rm mc ms 2 :=
  cwV 2 ht (gd_V ml_Model_101 im_Model_isFree se_Model_isFree in_Model cd_Model_isFree) rfl hrc hrs (by decide +kernel) hR
theorem cw_Model_105 {R : Room} {s : State} {args : Array Value} {rm : Room} {mc ms : Nat} (ht : ∀ w ∈ tb, w.before args s = true) (hrc : rm.cells = mc) (hrs : rm.slots = ms) (hR : rm.frames + 1 ≤ R.frames ∧ 8 + (2 + 11) + rm.locals ≤ R.locals) : CallW R s args R_Model R_Model 105 y_Model_isPicture b_Model_isPicture 2 (some .boolean) (.code y_Model_isPicture b_Model_isPicture 2 (some .boolean) :: tb) rm mc ms 1 :=
  cwV 1 ht (gd_V ml_Model_105 im_Model_isPicture se_Model_isPicture in_Model cd_Model_isPicture) rfl hrc hrs (by decide +kernel) hR
theorem cw_Model_110 {R : Room} {s : State} {args : Array Value} {rm : Room} {mc ms : Nat} (ht : ∀ w ∈ tb, w.before args s = true) (hrc : rm.cells = mc) (hrs : rm.slots = ms) (hR : rm.frames + 1 ≤ R.frames ∧ 8 + (6 + 11) + rm.locals ≤ R.locals) : CallW R s args R_Model R_Model 110 y_Model_take b_Model_take 6 none (.code y_Model_take b_Model_take 6 none :: tb) rm mc ms 2 :=
  cwV 2 ht (gd_V ml_Model_110 im_Model_take se_Model_take in_Model cd_Model_take) rfl hrc hrs (by decide +kernel) hR
theorem cw_Model_114 {R : Room} {s : State} {args : Array Value} {rm : Room} {mc ms : Nat} (ht : ∀ w ∈ tb, w.before args s = true) (hrc : rm.cells = mc) (hrs : rm.slots = ms) (hR : rm.frames + 1 ≤ R.frames ∧ 8 + (2 + 11) + rm.locals ≤ R.locals) : CallW R s args R_Model R_Model 114 y_Model_stateOf b_Model_stateOf 2 (some .int) (.code y_Model_stateOf b_Model_stateOf 2 (some .int) :: tb) rm mc ms 1 :=
  cwV 1 ht (gd_V ml_Model_114 im_Model_stateOf se_Model_stateOf in_Model cd_Model_stateOf) rfl hrc hrs (by decide +kernel) hR
theorem cw_Picture_38 {R : Room} {s : State} {args : Array Value} {rm : Room} {mc ms : Nat} (ht : ∀ w ∈ tb, w.before args s = true) (hrc : rm.cells = mc) (hrs : rm.slots = ms) (hR : rm.frames + 1 ≤ R.frames ∧ 8 + (1 + 11) + rm.locals ≤ R.locals) : CallW R s args R_Picture R_Picture 38 y_Picture_hasEnded b_Picture_hasEnded 1 (some .boolean) (.code y_Picture_hasEnded b_Picture_hasEnded 1 (some .boolean) :: tb) rm mc ms 0 :=
  cwV 0 ht (gd_V ml_Picture_38 im_Picture_hasEnded se_Picture_hasEnded in_Picture cd_Picture_hasEnded) rfl hrc hrs (by decide +kernel) hR
theorem cw_Picture_42 {R : Room} {s : State} {args : Array Value} {rm : Room} {mc ms : Nat} (ht : ∀ w ∈ tb, w.before args s = true) (hrc : rm.cells = mc) (hrs : rm.slots = ms) (hR : rm.frames + 1 ≤ R.frames ∧ 8 + (3 + 11) + rm.locals ≤ R.locals) : CallW R s args R_Picture R_Picture 42 y_Picture_isWanting b_Picture_isWanting 3 (some .boolean) (.code y_Picture_isWanting b_Picture_isWanting 3 (some .boolean) :: tb) rm mc ms 0 :=
  cwV 0 ht (gd_V ml_Picture_42 im_Picture_isWanting se_Picture_isWanting in_Picture cd_Picture_isWanting) rfl hrc hrs (by decide +kernel) hR
theorem cw_Picture_48 {R : Room} {s : State} {args : Array Value} {rm : Room} {mc ms : Nat} (ht : ∀ w ∈ tb, w.before args s = true) (hrc : rm.cells = mc) (hrs : rm.slots = ms) (hR : rm.frames + 1 ≤ R.frames ∧ 8 + (4 + 11) + rm.locals ≤ R.locals) : CallW R s args R_Picture R_Picture 48 y_Picture_isBarredBy b_Picture_isBarredBy 4 (some .boolean) (.code y_Picture_isBarredBy b_Picture_isBarredBy 4 (some .boolean) :: tb) rm mc ms 1 :=
  cwV 1 ht (gd_V ml_Picture_48 im_Picture_isBarredBy se_Picture_isBarredBy in_Picture cd_Picture_isBarredBy) rfl hrc hrs (by decide +kernel) hR
theorem cw_Picture_54 {R : Room} {s : State} {args : Array Value} {rm : Room} {mc ms : Nat} (ht : ∀ w ∈ tb, w.before args s = true) (hrc : rm.cells = mc) (hrs : rm.slots = ms) (hR : rm.frames + 1 ≤ R.frames ∧ 8 + (4 + 11) + rm.locals ≤ R.locals) : CallB R s args R_Picture 54 y_Turn_init b_Turn_init 4 none (.code y_Turn_init b_Turn_init 4 none :: tb) rm mc ms 3 ∧ (y_Turn_init).name = "<init>" ∧ (Cond.instanceMethod y_Turn_init).before args s = true :=
  cwI 3 ht (gd_0 cd_Turn_init) rfl hrc hrs (ht _ in_Turn) (ht _ ml_Picture_54) (ht _ im_Turn_init) rfl (by decide +kernel) hR
theorem cw_Picture_57 {R : Room} {s : State} {args : Array Value} {rm : Room} {mc ms : Nat} (ht : ∀ w ∈ tb, w.before args s = true) (hrc : rm.cells = mc) (hrs : rm.slots = ms) (hR : rm.frames + 1 ≤ R.frames ∧ 8 + (3 + 11) + rm.locals ≤ R.locals) : CallW R s args R_Picture R_Picture 57 y_Picture_hasEntry b_Picture_hasEntry 3 (some .boolean) (.code y_Picture_hasEntry b_Picture_hasEntry 3 (some .boolean) :: tb) rm mc ms 1 :=
  cwV 1 ht (gd_V ml_Picture_57 im_Picture_hasEntry se_Picture_hasEntry in_Picture cd_Picture_hasEntry) rfl hrc hrs (by decide +kernel) hR
theorem cw_Picture_64 {R : Room} {s : State} {args : Array Value} {rm : Room} {mc ms : Nat} (ht : ∀ w ∈ tb, w.before args s = true) (hrc : rm.cells = mc) (hrs : rm.slots = ms) (hR : rm.frames + 1 ≤ R.frames ∧ 8 + (2 + 11) + rm.locals ≤ R.locals) : CallW R s args R_Picture R_Picture 64 y_Picture_endAlike b_Picture_endAlike 2 none (.code y_Picture_endAlike b_Picture_endAlike 2 none :: tb) rm mc ms 1 :=
  cwV 1 ht (gd_V ml_Picture_64 im_Picture_endAlike se_Picture_endAlike in_Picture cd_Picture_endAlike) rfl hrc hrs (by decide +kernel) hR
theorem cw_Law_9 {R : Room} {s : State} {args : Array Value} {rm : Room} {mc ms : Nat} (ht : ∀ w ∈ tb, w.before args s = true) (hrc : rm.cells = mc) (hrs : rm.slots = ms) (hR : rm.frames + 1 ≤ R.frames ∧ 8 + (2 + 11) + rm.locals ≤ R.locals) : CallB R s args R_Law 9 y_Law_cell b_Law_cell 2 (some .int) (.code y_Law_cell b_Law_cell 2 (some .int) :: tb) rm mc ms 2 ∧ (Cond.static y_Law_cell).before args s = true :=
  cwS 2 ht (gd_S ml_Law_9 st_Law_cell in_Law cd_Law_cell) rfl hrc hrs (by decide +kernel) hR
theorem cw_Law_15 {R : Room} {s : State} {args : Array Value} {rm : Room} {mc ms : Nat} (ht : ∀ w ∈ tb, w.before args s = true) (hrc : rm.cells = mc) (hrs : rm.slots = ms) (hR : rm.frames + 1 ≤ R.frames ∧ 8 + (3 + 11) + rm.locals ≤ R.locals) : CallB R s args R_Law 15 y_ClerkRows_init b_ClerkRows_init 3 none (.code y_ClerkRows_init b_ClerkRows_init 3 none :: tb) rm mc ms 1 ∧ (y_ClerkRows_init).name = "<init>" ∧ (Cond.instanceMethod y_ClerkRows_init).before args s = true :=
  cwI 1 ht (gd_0 cd_ClerkRows_init) rfl hrc hrs (ht _ in_ClerkRows) (ht _ ml_Law_15) (ht _ im_ClerkRows_init) rfl (by decide +kernel) hR
theorem cw_Law_20 {R : Room} {s : State} {args : Array Value} {rm : Room} {mc ms : Nat} (ht : ∀ w ∈ tb, w.before args s = true) (hrc : rm.cells = mc) (hrs : rm.slots = ms) (hR : rm.frames + 1 ≤ R.frames ∧ 8 + (3 + 11) + rm.locals ≤ R.locals) : CallB R s args R_Law 20 y_Model_init b_Model_init 3 none (.code y_Model_init b_Model_init 3 none :: tb) rm mc ms 1 ∧ (y_Model_init).name = "<init>" ∧ (Cond.instanceMethod y_Model_init).before args s = true :=
  cwI 1 ht (gd_0 cd_Model_init) rfl hrc hrs (ht _ in_Model) (ht _ ml_Law_20) (ht _ im_Model_init) rfl (by decide +kernel) hR
theorem cw_Law_23 {R : Room} {s : State} {args : Array Value} {rm : Room} {mc ms : Nat} (ht : ∀ w ∈ tb, w.before args s = true) (hrc : rm.cells = mc) (hrs : rm.slots = ms) (hR : rm.frames + 1 ≤ R.frames ∧ 8 + (4 + 11) + rm.locals ≤ R.locals) : CallW R s args R_Law R_ClerkRows 23 y_ClerkRows_picture b_ClerkRows_picture 4 (some .int) (.code y_ClerkRows_picture b_ClerkRows_picture 4 (some .int) :: tb) rm mc ms 2 :=
  cwV 2 ht (gd_V ml_Law_23 im_ClerkRows_picture se_ClerkRows_picture in_ClerkRows cd_ClerkRows_picture) rfl hrc hrs (by decide +kernel) hR
theorem cw_Law_27 {R : Room} {s : State} {args : Array Value} {rm : Room} {mc ms : Nat} (ht : ∀ w ∈ tb, w.before args s = true) (hrc : rm.cells = mc) (hrs : rm.slots = ms) (hR : rm.frames + 1 ≤ R.frames ∧ 8 + (4 + 11) + rm.locals ≤ R.locals) : CallW R s args R_Law R_Model 27 y_Model_picture b_Model_picture 4 (some .int) (.code y_Model_picture b_Model_picture 4 (some .int) :: tb) rm mc ms 2 :=
  cwV 2 ht (gd_V ml_Law_27 im_Model_picture se_Model_picture in_Model cd_Model_picture) rfl hrc hrs (by decide +kernel) hR
theorem cw_Law_28 {R : Room} {s : State} {args : Array Value} {rm : Room} {mc ms : Nat} (ht : ∀ w ∈ tb, w.before args s = true) (hrc : rm.cells = mc) (hrs : rm.slots = ms) (hR : rm.frames + 1 ≤ R.frames ∧ 8 + (6 + 11) + rm.locals ≤ R.locals) : CallW R s args R_Law R_ClerkRows 28 y_ClerkRows_give b_ClerkRows_give 6 (some .int) (.code y_ClerkRows_give b_ClerkRows_give 6 (some .int) :: tb) rm mc ms 2 :=
  cwV 2 ht (gd_V ml_Law_28 im_ClerkRows_give se_ClerkRows_give in_ClerkRows cd_ClerkRows_give) rfl hrc hrs (by decide +kernel) hR
theorem cw_Law_32 {R : Room} {s : State} {args : Array Value} {rm : Room} {mc ms : Nat} (ht : ∀ w ∈ tb, w.before args s = true) (hrc : rm.cells = mc) (hrs : rm.slots = ms) (hR : rm.frames + 1 ≤ R.frames ∧ 8 + (6 + 11) + rm.locals ≤ R.locals) : CallW R s args R_Law R_Model 32 y_Model_give b_Model_give 6 (some .int) (.code y_Model_give b_Model_give 6 (some .int) :: tb) rm mc ms 2 :=
  cwV 2 ht (gd_V ml_Law_32 im_Model_give se_Model_give in_Model cd_Model_give) rfl hrc hrs (by decide +kernel) hR
theorem cw_Law_33 {R : Room} {s : State} {args : Array Value} {rm : Room} {mc ms : Nat} (ht : ∀ w ∈ tb, w.before args s = true) (hrc : rm.cells = mc) (hrs : rm.slots = ms) (hR : rm.frames + 1 ≤ R.frames ∧ 8 + (9 + 11) + rm.locals ≤ R.locals) : CallW R s args R_Law R_ClerkRows 33 y_ClerkRows_answer b_ClerkRows_answer 9 (some .int) (.code y_ClerkRows_answer b_ClerkRows_answer 9 (some .int) :: tb) rm mc ms 4 :=
  cwV 4 ht (gd_V ml_Law_33 im_ClerkRows_answer se_ClerkRows_answer in_ClerkRows cd_ClerkRows_answer) rfl hrc hrs (by decide +kernel) hR
theorem cw_Law_37 {R : Room} {s : State} {args : Array Value} {rm : Room} {mc ms : Nat} (ht : ∀ w ∈ tb, w.before args s = true) (hrc : rm.cells = mc) (hrs : rm.slots = ms) (hR : rm.frames + 1 ≤ R.frames ∧ 8 + (6 + 11) + rm.locals ≤ R.locals) : CallW R s args R_Law R_Model 37 y_Model_answer b_Model_answer 6 (some .int) (.code y_Model_answer b_Model_answer 6 (some .int) :: tb) rm mc ms 4 :=
  cwV 4 ht (gd_V ml_Law_37 im_Model_answer se_Model_answer in_Model cd_Model_answer) rfl hrc hrs (by decide +kernel) hR
theorem cw_Law_38 {R : Room} {s : State} {args : Array Value} {rm : Room} {mc ms : Nat} (ht : ∀ w ∈ tb, w.before args s = true) (hrc : rm.cells = mc) (hrs : rm.slots = ms) (hR : rm.frames + 1 ≤ R.frames ∧ 8 + (5 + 11) + rm.locals ≤ R.locals) : CallW R s args R_Law R_ClerkRows 38 y_ClerkRows_office b_ClerkRows_office 5 (some .int) (.code y_ClerkRows_office b_ClerkRows_office 5 (some .int) :: tb) rm mc ms 3 :=
  cwV 3 ht (gd_V ml_Law_38 im_ClerkRows_office se_ClerkRows_office in_ClerkRows cd_ClerkRows_office) rfl hrc hrs (by decide +kernel) hR
theorem cw_Law_42 {R : Room} {s : State} {args : Array Value} {rm : Room} {mc ms : Nat} (ht : ∀ w ∈ tb, w.before args s = true) (hrc : rm.cells = mc) (hrs : rm.slots = ms) (hR : rm.frames + 1 ≤ R.frames ∧ 8 + (5 + 11) + rm.locals ≤ R.locals) : CallW R s args R_Law R_Model 42 y_Model_office b_Model_office 5 (some .int) (.code y_Model_office b_Model_office 5 (some .int) :: tb) rm mc ms 3 :=
  cwV 3 ht (gd_V ml_Law_42 im_Model_office se_Model_office in_Model cd_Model_office) rfl hrc hrs (by decide +kernel) hR
theorem cw_Law_43 {R : Room} {s : State} {args : Array Value} {rm : Room} {mc ms : Nat} (ht : ∀ w ∈ tb, w.before args s = true) (hrc : rm.cells = mc) (hrs : rm.slots = ms) (hR : rm.frames + 1 ≤ R.frames ∧ 8 + (4 + 11) + rm.locals ≤ R.locals) : CallW R s args R_Law R_ClerkRows 43 y_ClerkRows_leave b_ClerkRows_leave 4 (some .int) (.code y_ClerkRows_leave b_ClerkRows_leave 4 (some .int) :: tb) rm mc ms 1 :=
  cwV 1 ht (gd_V ml_Law_43 im_ClerkRows_leave se_ClerkRows_leave in_ClerkRows cd_ClerkRows_leave) rfl hrc hrs (by decide +kernel) hR
theorem cw_Law_47 {R : Room} {s : State} {args : Array Value} {rm : Room} {mc ms : Nat} (ht : ∀ w ∈ tb, w.before args s = true) (hrc : rm.cells = mc) (hrs : rm.slots = ms) (hR : rm.frames + 1 ≤ R.frames ∧ 8 + (3 + 11) + rm.locals ≤ R.locals) : CallW R s args R_Law R_Model 47 y_Model_leave b_Model_leave 3 (some .int) (.code y_Model_leave b_Model_leave 3 (some .int) :: tb) rm mc ms 1 :=
  cwV 1 ht (gd_V ml_Law_47 im_Model_leave se_Model_leave in_Model cd_Model_leave) rfl hrc hrs (by decide +kernel) hR
theorem cw_Law_48 {R : Room} {s : State} {args : Array Value} {rm : Room} {mc ms : Nat} (ht : ∀ w ∈ tb, w.before args s = true) (hrc : rm.cells = mc) (hrs : rm.slots = ms) (hR : rm.frames + 1 ≤ R.frames ∧ 8 + (4 + 11) + rm.locals ≤ R.locals) : CallW R s args R_Law R_ClerkRows 48 y_ClerkRows_tick b_ClerkRows_tick 4 (some .int) (.code y_ClerkRows_tick b_ClerkRows_tick 4 (some .int) :: tb) rm mc ms 1 :=
  cwV 1 ht (gd_V ml_Law_48 im_ClerkRows_tick se_ClerkRows_tick in_ClerkRows cd_ClerkRows_tick) rfl hrc hrs (by decide +kernel) hR
theorem cw_Law_52 {R : Room} {s : State} {args : Array Value} {rm : Room} {mc ms : Nat} (ht : ∀ w ∈ tb, w.before args s = true) (hrc : rm.cells = mc) (hrs : rm.slots = ms) (hR : rm.frames + 1 ≤ R.frames ∧ 8 + (4 + 11) + rm.locals ≤ R.locals) : CallW R s args R_Law R_Model 52 y_Model_tick b_Model_tick 4 (some .int) (.code y_Model_tick b_Model_tick 4 (some .int) :: tb) rm mc ms 1 :=
  cwV 1 ht (gd_V ml_Law_52 im_Model_tick se_Model_tick in_Model cd_Model_tick) rfl hrc hrs (by decide +kernel) hR
theorem cw_Law_53 {R : Room} {s : State} {args : Array Value} {rm : Room} {mc ms : Nat} (ht : ∀ w ∈ tb, w.before args s = true) (hrc : rm.cells = mc) (hrs : rm.slots = ms) (hR : rm.frames + 1 ≤ R.frames ∧ 8 + (3 + 11) + rm.locals ≤ R.locals) : CallW R s args R_Law R_ClerkRows 53 y_ClerkRows_settled b_ClerkRows_settled 3 (some .int) (.code y_ClerkRows_settled b_ClerkRows_settled 3 (some .int) :: tb) rm mc ms 1 :=
  cwV 1 ht (gd_V ml_Law_53 im_ClerkRows_settled se_ClerkRows_settled in_ClerkRows cd_ClerkRows_settled) rfl hrc hrs (by decide +kernel) hR
theorem cw_Law_56 {R : Room} {s : State} {args : Array Value} {rm : Room} {mc ms : Nat} (ht : ∀ w ∈ tb, w.before args s = true) (hrc : rm.cells = mc) (hrs : rm.slots = ms) (hR : rm.frames + 1 ≤ R.frames ∧ 8 + (2 + 11) + rm.locals ≤ R.locals) : CallW R s args R_Law R_Model 56 y_Model_settled b_Model_settled 2 (some .int) (.code y_Model_settled b_Model_settled 2 (some .int) :: tb) rm mc ms 1 :=
  cwV 1 ht (gd_V ml_Law_56 im_Model_settled se_Model_settled in_Model cd_Model_settled) rfl hrc hrs (by decide +kernel) hR
theorem cw_Law_57 {R : Room} {s : State} {args : Array Value} {rm : Room} {mc ms : Nat} (ht : ∀ w ∈ tb, w.before args s = true) (hrc : rm.cells = mc) (hrs : rm.slots = ms) (hR : rm.frames + 1 ≤ R.frames ∧ 8 + (3 + 11) + rm.locals ≤ R.locals) : CallW R s args R_Law R_ClerkRows 57 y_ClerkRows_state b_ClerkRows_state 3 (some .int) (.code y_ClerkRows_state b_ClerkRows_state 3 (some .int) :: tb) rm mc ms 1 :=
  cwV 1 ht (gd_V ml_Law_57 im_ClerkRows_state se_ClerkRows_state in_ClerkRows cd_ClerkRows_state) rfl hrc hrs (by decide +kernel) hR
theorem cw_Law_60 {R : Room} {s : State} {args : Array Value} {rm : Room} {mc ms : Nat} (ht : ∀ w ∈ tb, w.before args s = true) (hrc : rm.cells = mc) (hrs : rm.slots = ms) (hR : rm.frames + 1 ≤ R.frames ∧ 8 + (2 + 11) + rm.locals ≤ R.locals) : CallW R s args R_Law R_Model 60 y_Model_state b_Model_state 2 (some .int) (.code y_Model_state b_Model_state 2 (some .int) :: tb) rm mc ms 1 :=
  cwV 1 ht (gd_V ml_Law_60 im_Model_state se_Model_state in_Model cd_Model_state) rfl hrc hrs (by decide +kernel) hR
theorem cw_Law_61 {R : Room} {s : State} {args : Array Value} {rm : Room} {mc ms : Nat} (ht : ∀ w ∈ tb, w.before args s = true) (hrc : rm.cells = mc) (hrs : rm.slots = ms) (hR : rm.frames + 1 ≤ R.frames ∧ 8 + (14 + 11) + rm.locals ≤ R.locals) : CallW R s args R_Law R_ClerkRows 61 y_ClerkRows_agreement b_ClerkRows_agreement 14 (some .long) (.code y_ClerkRows_agreement b_ClerkRows_agreement 14 (some .long) :: tb) rm mc ms 3 :=
  cwV 3 ht (gd_V ml_Law_61 im_ClerkRows_agreement se_ClerkRows_agreement in_ClerkRows cd_ClerkRows_agreement) rfl hrc hrs (by decide +kernel) hR
theorem cw_Law_65 {R : Room} {s : State} {args : Array Value} {rm : Room} {mc ms : Nat} (ht : ∀ w ∈ tb, w.before args s = true) (hrc : rm.cells = mc) (hrs : rm.slots = ms) (hR : rm.frames + 1 ≤ R.frames ∧ 8 + (8 + 11) + rm.locals ≤ R.locals) : CallW R s args R_Law R_Model 65 y_Model_agreement b_Model_agreement 8 (some .long) (.code y_Model_agreement b_Model_agreement 8 (some .long) :: tb) rm mc ms 3 :=
  cwV 3 ht (gd_V ml_Law_65 im_Model_agreement se_Model_agreement in_Model cd_Model_agreement) rfl hrc hrs (by decide +kernel) hR
theorem cw_Law_66 {R : Room} {s : State} {args : Array Value} {rm : Room} {mc ms : Nat} (ht : ∀ w ∈ tb, w.before args s = true) (hrc : rm.cells = mc) (hrs : rm.slots = ms) (hR : rm.frames + 1 ≤ R.frames ∧ 8 + (6 + 11) + rm.locals ≤ R.locals) : CallW R s args R_Law R_ClerkRows 66 y_ClerkRows_waiting b_ClerkRows_waiting 6 (some .int) (.code y_ClerkRows_waiting b_ClerkRows_waiting 6 (some .int) :: tb) rm mc ms 0 :=
  cwV 0 ht (gd_V ml_Law_66 im_ClerkRows_waiting se_ClerkRows_waiting in_ClerkRows cd_ClerkRows_waiting) rfl hrc hrs (by decide +kernel) hR
theorem cw_Law_70 {R : Room} {s : State} {args : Array Value} {rm : Room} {mc ms : Nat} (ht : ∀ w ∈ tb, w.before args s = true) (hrc : rm.cells = mc) (hrs : rm.slots = ms) (hR : rm.frames + 1 ≤ R.frames ∧ 8 + (1 + 11) + rm.locals ≤ R.locals) : CallW R s args R_Law R_Model 70 y_Model_waiting b_Model_waiting 1 (some .int) (.code y_Model_waiting b_Model_waiting 1 (some .int) :: tb) rm mc ms 0 :=
  cwV 0 ht (gd_V ml_Law_70 im_Model_waiting se_Model_waiting in_Model cd_Model_waiting) rfl hrc hrs (by decide +kernel) hR
section FLD
variable {p : Program} {l : Launch} {e : Env} {R : Room} {s : State} {m : MethodId} {args : Array Value} {below : List Frame} {meth : Method} {c : Code} {H : Heap} {locs : List Loc} {cells slots : Nat} {Q : State → Prop} {cc : ByteArray} {pc nL : Nat} {ls : Array Slot} {rest : List Value} {D : va_G} {A : Nat → Prop} {a : Nat} {ca : Nat → ClassId} {H0 : Heap} {f : wd_M}
theorem fp_ClerkRows_11 {v v0 v1 v2 v3 v4 v5 : Value} (X : CallFix p m c cc nL s args tb R_ClerkRows) (hK : va_K D classes (ty ca) s) (hw : wd_I D classes A H0 f H locs) (hin2 : meth.name = "<init>") (ha : f a = some (.inr (0, [v0, v1, v2, v3, v4, v5]))) (hn : narrow (.array (.object "ClerkRows$Picture")) v = v) (hfit : fits (.array (.object "ClerkRows$Picture")) v = true) (hdg : decode cc pc = .ok (.putfield 11, 3)) (kk : ∀ (f1 : wd_M) (H1 : Heap) (locs1 : List Loc), f1 = wd_up f a (.inr (0, [v0, v, v2, v3, v4, v5])) → wd_I D classes A H0 f1 H1 locs1 → W p l e R s m args below meth c H1 locs1 cells slots Q (F0 m (pc + 3) ls rest)) : W p l e R s m args below meth c H locs cells slots Q (F0 m pc ls (v :: .ref a :: rest)) :=
  wd_putF X hK hw hin2 (C := R_ClerkRows) (T := F_ClerkRows) (N := 6) i_ClerkRows t_ClerkRows t_ClerkRows_ok n_ClerkRows ha rfl 1 (by decide) fl_ClerkRows_11 (fun _ h9 => h9) rfl rfl (by decide +kernel) hn hfit (Nat.le_of_ble_eq_true rfl) hdg kk
theorem fp_ClerkRows_17 {v v0 v1 v2 v3 v4 v5 : Value} (X : CallFix p m c cc nL s args tb R_ClerkRows) (hK : va_K D classes (ty ca) s) (hw : wd_I D classes A H0 f H locs) (hin2 : meth.name = "<init>") (ha : f a = some (.inr (0, [v0, v1, v2, v3, v4, v5]))) (hn : narrow (.array (.object "ClerkRows$Clerk")) v = v) (hfit : fits (.array (.object "ClerkRows$Clerk")) v = true) (hdg : decode cc pc = .ok (.putfield 17, 3)) (kk : ∀ (f1 : wd_M) (H1 : Heap) (locs1 : List Loc), f1 = wd_up f a (.inr (0, [v0, v1, v, v3, v4, v5])) → wd_I D classes A H0 f1 H1 locs1 → W p l e R s m args below meth c H1 locs1 cells slots Q (F0 m (pc + 3) ls rest)) : W p l e R s m args below meth c H locs cells slots Q (F0 m pc ls (v :: .ref a :: rest)) :=
  wd_putF X hK hw hin2 (C := R_ClerkRows) (T := F_ClerkRows) (N := 6) i_ClerkRows t_ClerkRows t_ClerkRows_ok n_ClerkRows ha rfl 2 (by decide) fl_ClerkRows_17 (fun _ h9 => h9) rfl rfl (by decide +kernel) hn hfit (Nat.le_of_ble_eq_true rfl) hdg kk
theorem fp_ClerkRows_21 {v v0 v1 v2 v3 v4 v5 : Value} (X : CallFix p m c cc nL s args tb R_ClerkRows) (hK : va_K D classes (ty ca) s) (hw : wd_I D classes A H0 f H locs) (ha : f a = some (.inr (0, [v0, v1, v2, v3, v4, v5]))) (hn : narrow (.int) v = v) (hfit : fits (.int) v = true) (hdg : decode cc pc = .ok (.putfield 21, 3)) (kk : ∀ (f1 : wd_M) (H1 : Heap) (locs1 : List Loc), f1 = wd_up f a (.inr (0, [v0, v1, v2, v, v4, v5])) → wd_I D classes A H0 f1 H1 locs1 → W p l e R s m args below meth c H1 locs1 cells slots Q (F0 m (pc + 3) ls rest)) : W p l e R s m args below meth c H locs cells slots Q (F0 m pc ls (v :: .ref a :: rest)) :=
  wd_put X hK hw (C := R_ClerkRows) (T := F_ClerkRows) (N := 6) i_ClerkRows t_ClerkRows t_ClerkRows_ok n_ClerkRows ha rfl 3 (by decide) fl_ClerkRows_21 (fun _ h9 => h9) rfl (by decide +kernel) hn hfit (Nat.le_of_ble_eq_true rfl) hdg kk
theorem fp_ClerkRows_25 {v v0 v1 v2 v3 v4 v5 : Value} (X : CallFix p m c cc nL s args tb R_ClerkRows) (hK : va_K D classes (ty ca) s) (hw : wd_I D classes A H0 f H locs) (ha : f a = some (.inr (0, [v0, v1, v2, v3, v4, v5]))) (hn : narrow (.long) v = v) (hfit : fits (.long) v = true) (hdg : decode cc pc = .ok (.putfield 25, 3)) (kk : ∀ (f1 : wd_M) (H1 : Heap) (locs1 : List Loc), f1 = wd_up f a (.inr (0, [v0, v1, v2, v3, v, v5])) → wd_I D classes A H0 f1 H1 locs1 → W p l e R s m args below meth c H1 locs1 cells slots Q (F0 m (pc + 3) ls rest)) : W p l e R s m args below meth c H locs cells slots Q (F0 m pc ls (v :: .ref a :: rest)) :=
  wd_put X hK hw (C := R_ClerkRows) (T := F_ClerkRows) (N := 6) i_ClerkRows t_ClerkRows t_ClerkRows_ok n_ClerkRows ha rfl 4 (by decide) fl_ClerkRows_25 (fun _ h9 => h9) rfl (by decide +kernel) hn hfit (Nat.le_of_ble_eq_true rfl) hdg kk
theorem fp_ClerkRows_29 {v v0 v1 v2 v3 v4 v5 : Value} (X : CallFix p m c cc nL s args tb R_ClerkRows) (hK : va_K D classes (ty ca) s) (hw : wd_I D classes A H0 f H locs) (ha : f a = some (.inr (0, [v0, v1, v2, v3, v4, v5]))) (hn : narrow (.int) v = v) (hfit : fits (.int) v = true) (hdg : decode cc pc = .ok (.putfield 29, 3)) (kk : ∀ (f1 : wd_M) (H1 : Heap) (locs1 : List Loc), f1 = wd_up f a (.inr (0, [v0, v1, v2, v3, v4, v])) → wd_I D classes A H0 f1 H1 locs1 → W p l e R s m args below meth c H1 locs1 cells slots Q (F0 m (pc + 3) ls rest)) : W p l e R s m args below meth c H locs cells slots Q (F0 m pc ls (v :: .ref a :: rest)) :=
  wd_put X hK hw (C := R_ClerkRows) (T := F_ClerkRows) (N := 6) i_ClerkRows t_ClerkRows t_ClerkRows_ok n_ClerkRows ha rfl 5 (by decide) fl_ClerkRows_29 (fun _ h9 => h9) rfl (by decide +kernel) hn hfit (Nat.le_of_ble_eq_true rfl) hdg kk
theorem fp_ClerkRows_41 {v v0 v1 v2 v3 v4 v5 : Value} (X : CallFix p m c cc nL s args tb R_ClerkRows) (hK : va_K D classes (ty ca) s) (hw : wd_I D classes A H0 f H locs) (hin2 : meth.name = "<init>") (ha : f a = some (.inr (0, [v0, v1, v2, v3, v4, v5]))) (hn : narrow (.int) v = v) (hfit : fits (.int) v = true) (hdg : decode cc pc = .ok (.putfield 41, 3)) (kk : ∀ (f1 : wd_M) (H1 : Heap) (locs1 : List Loc), f1 = wd_up f a (.inr (0, [v, v1, v2, v3, v4, v5])) → wd_I D classes A H0 f1 H1 locs1 → W p l e R s m args below meth c H1 locs1 cells slots Q (F0 m (pc + 3) ls rest)) : W p l e R s m args below meth c H locs cells slots Q (F0 m pc ls (v :: .ref a :: rest)) :=
  wd_putF X hK hw hin2 (C := R_ClerkRows) (T := F_ClerkRows) (N := 6) i_ClerkRows t_ClerkRows t_ClerkRows_ok n_ClerkRows ha rfl 0 (by decide) fl_ClerkRows_41 (fun _ h9 => h9) rfl rfl (by decide +kernel) hn hfit (Nat.le_of_ble_eq_true rfl) hdg kk
theorem fg_ClerkRows_17 {v0 v1 v2 v3 v4 v5 : Value} (X : CallFix p m c cc nL s args tb R_ClerkRows) (hK : va_K D classes (ty ca) s) (hw : wd_I D classes A H0 f H locs) (ha : f a = some (.inr (0, [v0, v1, v2, v3, v4, v5]))) (hdg : decode cc pc = .ok (.getfield 17, 3)) (kk : W p l e R s m args below meth c H locs cells slots Q (F0 m (pc + 3) ls (v2 :: rest))) : W p l e R s m args below meth c H locs cells slots Q (F0 m pc ls (.ref a :: rest)) :=
  wd_get X hK hw (C := R_ClerkRows) (T := F_ClerkRows) (N := 6) i_ClerkRows ha rfl 2 (by decide) fl_ClerkRows_17 (fun _ h9 => h9) rfl hdg kk
theorem nw_ClerkRows_15 (X : CallFix p m c cc nL s args tb R_ClerkRows) (hK : va_K D classes (ty ca) s) (hw : wd_I D classes A H0 f H locs) (hcells : cells + 1 ≤ R.cells) (hslots : slots + 5 ≤ R.slots) (hdg : decode cc pc = .ok (.new 15, 3)) (kk : ∀ (q : Nat) (f1 : wd_M) (H1 : Heap), q = H.size → f q = none → f1 = wd_up f q (.inr (1, [.int 0, .int 0, .int 0, .int 0, .null])) → wd_I D classes A H0 f1 H1 locs → W p l e R s m args below meth c H1 locs (cells + 1) (slots + 5) Q (F0 m (pc + 3) ls (.ref q :: rest))) : W p l e R s m args below meth c H locs cells slots Q (F0 m pc ls rest) :=
  wd_new X hK hw (C := R_Clerk) (T := F_Clerk) (N := 5) i_Clerk t_Clerk t_Clerk_ok cl_ClerkRows_15 ib_Clerk in_Clerk rfl (fun j hj => by rcases (show j = 0 ∨ j = 1 ∨ j = 2 ∨ j = 3 ∨ j = 4 by omega) with rfl | rfl | rfl | rfl | rfl <;> rfl) hcells hslots hdg kk
theorem fg_ClerkRows_21 {v0 v1 v2 v3 v4 v5 : Value} (X : CallFix p m c cc nL s args tb R_ClerkRows) (hK : va_K D classes (ty ca) s) (hw : wd_I D classes A H0 f H locs) (ha : f a = some (.inr (0, [v0, v1, v2, v3, v4, v5]))) (hdg : decode cc pc = .ok (.getfield 21, 3)) (kk : W p l e R s m args below meth c H locs cells slots Q (F0 m (pc + 3) ls (v3 :: rest))) : W p l e R s m args below meth c H locs cells slots Q (F0 m pc ls (.ref a :: rest)) :=
  wd_get X hK hw (C := R_ClerkRows) (T := F_ClerkRows) (N := 6) i_ClerkRows ha rfl 3 (by decide) fl_ClerkRows_21 (fun _ h9 => h9) rfl hdg kk
theorem fg_ClerkRows_41 {v0 v1 v2 v3 v4 v5 : Value} (X : CallFix p m c cc nL s args tb R_ClerkRows) (hK : va_K D classes (ty ca) s) (hw : wd_I D classes A H0 f H locs) (ha : f a = some (.inr (0, [v0, v1, v2, v3, v4, v5]))) (hdg : decode cc pc = .ok (.getfield 41, 3)) (kk : W p l e R s m args below meth c H locs cells slots Q (F0 m (pc + 3) ls (v0 :: rest))) : W p l e R s m args below meth c H locs cells slots Q (F0 m pc ls (.ref a :: rest)) :=
  wd_get X hK hw (C := R_ClerkRows) (T := F_ClerkRows) (N := 6) i_ClerkRows ha rfl 0 (by decide) fl_ClerkRows_41 (fun _ h9 => h9) rfl hdg kk
theorem fg_ClerkRows_11 {v0 v1 v2 v3 v4 v5 : Value} (X : CallFix p m c cc nL s args tb R_ClerkRows) (hK : va_K D classes (ty ca) s) (hw : wd_I D classes A H0 f H locs) (ha : f a = some (.inr (0, [v0, v1, v2, v3, v4, v5]))) (hdg : decode cc pc = .ok (.getfield 11, 3)) (kk : W p l e R s m args below meth c H locs cells slots Q (F0 m (pc + 3) ls (v1 :: rest))) : W p l e R s m args below meth c H locs cells slots Q (F0 m pc ls (.ref a :: rest)) :=
  wd_get X hK hw (C := R_ClerkRows) (T := F_ClerkRows) (N := 6) i_ClerkRows ha rfl 1 (by decide) fl_ClerkRows_11 (fun _ h9 => h9) rfl hdg kk
theorem nw_ClerkRows_9 (X : CallFix p m c cc nL s args tb R_ClerkRows) (hK : va_K D classes (ty ca) s) (hw : wd_I D classes A H0 f H locs) (hcells : cells + 1 ≤ R.cells) (hslots : slots + 8 ≤ R.slots) (hdg : decode cc pc = .ok (.new 9, 3)) (kk : ∀ (q : Nat) (f1 : wd_M) (H1 : Heap), q = H.size → f q = none → f1 = wd_up f q (.inr (3, [.int 0, .long 0, .int 0, .int 0, .int 0, .int 0, .int 0, .null])) → wd_I D classes A H0 f1 H1 locs → W p l e R s m args below meth c H1 locs (cells + 1) (slots + 8) Q (F0 m (pc + 3) ls (.ref q :: rest))) : W p l e R s m args below meth c H locs cells slots Q (F0 m pc ls rest) :=
  wd_new X hK hw (C := R_Picture) (T := F_Picture) (N := 8) i_Picture t_Picture t_Picture_ok cl_ClerkRows_9 ib_Picture in_Picture rfl (fun j hj => by rcases (show j = 0 ∨ j = 1 ∨ j = 2 ∨ j = 3 ∨ j = 4 ∨ j = 5 ∨ j = 6 ∨ j = 7 by omega) with rfl | rfl | rfl | rfl | rfl | rfl | rfl | rfl <;> rfl) hcells hslots hdg kk
theorem fg_ClerkRows_66 {v0 v1 v2 v3 v4 : Value} (X : CallFix p m c cc nL s args tb R_ClerkRows) (hK : va_K D classes (ty ca) s) (hw : wd_I D classes A H0 f H locs) (ha : f a = some (.inr (1, [v0, v1, v2, v3, v4]))) (hdg : decode cc pc = .ok (.getfield 66, 3)) (kk : W p l e R s m args below meth c H locs cells slots Q (F0 m (pc + 3) ls (v1 :: rest))) : W p l e R s m args below meth c H locs cells slots Q (F0 m pc ls (.ref a :: rest)) :=
  wd_get X hK hw (C := R_Clerk) (T := F_Clerk) (N := 5) i_Clerk ha rfl 1 (by decide) fl_ClerkRows_66 (fun _ h9 => h9) rfl hdg kk
theorem fg_ClerkRows_70 {v0 v1 v2 v3 v4 : Value} (X : CallFix p m c cc nL s args tb R_ClerkRows) (hK : va_K D classes (ty ca) s) (hw : wd_I D classes A H0 f H locs) (ha : f a = some (.inr (1, [v0, v1, v2, v3, v4]))) (hdg : decode cc pc = .ok (.getfield 70, 3)) (kk : W p l e R s m args below meth c H locs cells slots Q (F0 m (pc + 3) ls (v4 :: rest))) : W p l e R s m args below meth c H locs cells slots Q (F0 m pc ls (.ref a :: rest)) :=
  wd_get X hK hw (C := R_Clerk) (T := F_Clerk) (N := 5) i_Clerk ha rfl 4 (by decide) fl_ClerkRows_70 (fun _ h9 => h9) rfl hdg kk
theorem fp_ClerkRows_70 {v v0 v1 v2 v3 v4 : Value} (X : CallFix p m c cc nL s args tb R_ClerkRows) (hK : va_K D classes (ty ca) s) (hw : wd_I D classes A H0 f H locs) (ha : f a = some (.inr (1, [v0, v1, v2, v3, v4]))) (hn : narrow (.object "ClerkRows$Turn") v = v) (hfit : fits (.object "ClerkRows$Turn") v = true) (hdg : decode cc pc = .ok (.putfield 70, 3)) (kk : ∀ (f1 : wd_M) (H1 : Heap) (locs1 : List Loc), f1 = wd_up f a (.inr (1, [v0, v1, v2, v3, v])) → wd_I D classes A H0 f1 H1 locs1 → W p l e R s m args below meth c H1 locs1 cells slots Q (F0 m (pc + 3) ls rest)) : W p l e R s m args below meth c H locs cells slots Q (F0 m pc ls (v :: .ref a :: rest)) :=
  wd_put X hK hw (C := R_Clerk) (T := F_Clerk) (N := 5) i_Clerk t_Clerk t_Clerk_ok n_Clerk ha rfl 4 (by decide) fl_ClerkRows_70 (fun _ h9 => h9) rfl (by decide +kernel) hn hfit (Nat.le_of_ble_eq_true rfl) hdg kk
theorem fg_ClerkRows_86 {v0 v1 v2 v3 v4 v5 v6 v7 : Value} (X : CallFix p m c cc nL s args tb R_ClerkRows) (hK : va_K D classes (ty ca) s) (hw : wd_I D classes A H0 f H locs) (ha : f a = some (.inr (3, [v0, v1, v2, v3, v4, v5, v6, v7]))) (hdg : decode cc pc = .ok (.getfield 86, 3)) (kk : W p l e R s m args below meth c H locs cells slots Q (F0 m (pc + 3) ls (v0 :: rest))) : W p l e R s m args below meth c H locs cells slots Q (F0 m pc ls (.ref a :: rest)) :=
  wd_get X hK hw (C := R_Picture) (T := F_Picture) (N := 8) i_Picture ha rfl 0 (by decide) fl_ClerkRows_86 (fun _ h9 => h9) rfl hdg kk
theorem fg_ClerkRows_93 {v0 v1 v2 v3 v4 : Value} (X : CallFix p m c cc nL s args tb R_ClerkRows) (hK : va_K D classes (ty ca) s) (hw : wd_I D classes A H0 f H locs) (ha : f a = some (.inr (2, [v0, v1, v2, v3, v4]))) (hdg : decode cc pc = .ok (.getfield 93, 3)) (kk : W p l e R s m args below meth c H locs cells slots Q (F0 m (pc + 3) ls (v0 :: rest))) : W p l e R s m args below meth c H locs cells slots Q (F0 m pc ls (.ref a :: rest)) :=
  wd_get X hK hw (C := R_Turn) (T := F_Turn) (N := 5) i_Turn ha rfl 0 (by decide) fl_ClerkRows_93 (fun _ h9 => h9) rfl hdg kk
theorem fg_ClerkRows_105 {v0 v1 v2 v3 v4 : Value} (X : CallFix p m c cc nL s args tb R_ClerkRows) (hK : va_K D classes (ty ca) s) (hw : wd_I D classes A H0 f H locs) (ha : f a = some (.inr (1, [v0, v1, v2, v3, v4]))) (hdg : decode cc pc = .ok (.getfield 105, 3)) (kk : W p l e R s m args below meth c H locs cells slots Q (F0 m (pc + 3) ls (v2 :: rest))) : W p l e R s m args below meth c H locs cells slots Q (F0 m pc ls (.ref a :: rest)) :=
  wd_get X hK hw (C := R_Clerk) (T := F_Clerk) (N := 5) i_Clerk ha rfl 2 (by decide) fl_ClerkRows_105 (fun _ h9 => h9) rfl hdg kk
theorem fg_ClerkRows_108 {v0 v1 v2 v3 v4 : Value} (X : CallFix p m c cc nL s args tb R_ClerkRows) (hK : va_K D classes (ty ca) s) (hw : wd_I D classes A H0 f H locs) (ha : f a = some (.inr (1, [v0, v1, v2, v3, v4]))) (hdg : decode cc pc = .ok (.getfield 108, 3)) (kk : W p l e R s m args below meth c H locs cells slots Q (F0 m (pc + 3) ls (v3 :: rest))) : W p l e R s m args below meth c H locs cells slots Q (F0 m pc ls (.ref a :: rest)) :=
  wd_get X hK hw (C := R_Clerk) (T := F_Clerk) (N := 5) i_Clerk ha rfl 3 (by decide) fl_ClerkRows_108 (fun _ h9 => h9) rfl hdg kk
theorem fp_ClerkRows_66 {v v0 v1 v2 v3 v4 : Value} (X : CallFix p m c cc nL s args tb R_ClerkRows) (hK : va_K D classes (ty ca) s) (hw : wd_I D classes A H0 f H locs) (ha : f a = some (.inr (1, [v0, v1, v2, v3, v4]))) (hn : narrow (.boolean) v = v) (hfit : fits (.boolean) v = true) (hdg : decode cc pc = .ok (.putfield 66, 3)) (kk : ∀ (f1 : wd_M) (H1 : Heap) (locs1 : List Loc), f1 = wd_up f a (.inr (1, [v0, v, v2, v3, v4])) → wd_I D classes A H0 f1 H1 locs1 → W p l e R s m args below meth c H1 locs1 cells slots Q (F0 m (pc + 3) ls rest)) : W p l e R s m args below meth c H locs cells slots Q (F0 m pc ls (v :: .ref a :: rest)) :=
  wd_put X hK hw (C := R_Clerk) (T := F_Clerk) (N := 5) i_Clerk t_Clerk t_Clerk_ok n_Clerk ha rfl 1 (by decide) fl_ClerkRows_66 (fun _ h9 => h9) rfl (by decide +kernel) hn hfit (Nat.le_of_ble_eq_true rfl) hdg kk
theorem fp_ClerkRows_105 {v v0 v1 v2 v3 v4 : Value} (X : CallFix p m c cc nL s args tb R_ClerkRows) (hK : va_K D classes (ty ca) s) (hw : wd_I D classes A H0 f H locs) (ha : f a = some (.inr (1, [v0, v1, v2, v3, v4]))) (hn : narrow (.int) v = v) (hfit : fits (.int) v = true) (hdg : decode cc pc = .ok (.putfield 105, 3)) (kk : ∀ (f1 : wd_M) (H1 : Heap) (locs1 : List Loc), f1 = wd_up f a (.inr (1, [v0, v1, v, v3, v4])) → wd_I D classes A H0 f1 H1 locs1 → W p l e R s m args below meth c H1 locs1 cells slots Q (F0 m (pc + 3) ls rest)) : W p l e R s m args below meth c H locs cells slots Q (F0 m pc ls (v :: .ref a :: rest)) :=
  wd_put X hK hw (C := R_Clerk) (T := F_Clerk) (N := 5) i_Clerk t_Clerk t_Clerk_ok n_Clerk ha rfl 2 (by decide) fl_ClerkRows_105 (fun _ h9 => h9) rfl (by decide +kernel) hn hfit (Nat.le_of_ble_eq_true rfl) hdg kk
theorem fp_ClerkRows_108 {v v0 v1 v2 v3 v4 : Value} (X : CallFix p m c cc nL s args tb R_ClerkRows) (hK : va_K D classes (ty ca) s) (hw : wd_I D classes A H0 f H locs) (ha : f a = some (.inr (1, [v0, v1, v2, v3, v4]))) (hn : narrow (.int) v = v) (hfit : fits (.int) v = true) (hdg : decode cc pc = .ok (.putfield 108, 3)) (kk : ∀ (f1 : wd_M) (H1 : Heap) (locs1 : List Loc), f1 = wd_up f a (.inr (1, [v0, v1, v2, v, v4])) → wd_I D classes A H0 f1 H1 locs1 → W p l e R s m args below meth c H1 locs1 cells slots Q (F0 m (pc + 3) ls rest)) : W p l e R s m args below meth c H locs cells slots Q (F0 m pc ls (v :: .ref a :: rest)) :=
  wd_put X hK hw (C := R_Clerk) (T := F_Clerk) (N := 5) i_Clerk t_Clerk t_Clerk_ok n_Clerk ha rfl 3 (by decide) fl_ClerkRows_108 (fun _ h9 => h9) rfl (by decide +kernel) hn hfit (Nat.le_of_ble_eq_true rfl) hdg kk
theorem fp_ClerkRows_111 {v v0 v1 v2 v3 v4 : Value} (X : CallFix p m c cc nL s args tb R_ClerkRows) (hK : va_K D classes (ty ca) s) (hw : wd_I D classes A H0 f H locs) (ha : f a = some (.inr (2, [v0, v1, v2, v3, v4]))) (hn : narrow (.int) v = v) (hfit : fits (.int) v = true) (hdg : decode cc pc = .ok (.putfield 111, 3)) (kk : ∀ (f1 : wd_M) (H1 : Heap) (locs1 : List Loc), f1 = wd_up f a (.inr (2, [v0, v1, v2, v3, v])) → wd_I D classes A H0 f1 H1 locs1 → W p l e R s m args below meth c H1 locs1 cells slots Q (F0 m (pc + 3) ls rest)) : W p l e R s m args below meth c H locs cells slots Q (F0 m pc ls (v :: .ref a :: rest)) :=
  wd_put X hK hw (C := R_Turn) (T := F_Turn) (N := 5) i_Turn t_Turn t_Turn_ok n_Turn ha rfl 4 (by decide) fl_ClerkRows_111 (fun _ h9 => h9) rfl (by decide +kernel) hn hfit (Nat.le_of_ble_eq_true rfl) hdg kk
theorem fg_ClerkRows_29 {v0 v1 v2 v3 v4 v5 : Value} (X : CallFix p m c cc nL s args tb R_ClerkRows) (hK : va_K D classes (ty ca) s) (hw : wd_I D classes A H0 f H locs) (ha : f a = some (.inr (0, [v0, v1, v2, v3, v4, v5]))) (hdg : decode cc pc = .ok (.getfield 29, 3)) (kk : W p l e R s m args below meth c H locs cells slots Q (F0 m (pc + 3) ls (v5 :: rest))) : W p l e R s m args below meth c H locs cells slots Q (F0 m pc ls (.ref a :: rest)) :=
  wd_get X hK hw (C := R_ClerkRows) (T := F_ClerkRows) (N := 6) i_ClerkRows ha rfl 5 (by decide) fl_ClerkRows_29 (fun _ h9 => h9) rfl hdg kk
theorem fg_ClerkRows_118 {v0 v1 v2 v3 v4 v5 v6 v7 : Value} (X : CallFix p m c cc nL s args tb R_ClerkRows) (hK : va_K D classes (ty ca) s) (hw : wd_I D classes A H0 f H locs) (ha : f a = some (.inr (3, [v0, v1, v2, v3, v4, v5, v6, v7]))) (hdg : decode cc pc = .ok (.getfield 118, 3)) (kk : W p l e R s m args below meth c H locs cells slots Q (F0 m (pc + 3) ls (v6 :: rest))) : W p l e R s m args below meth c H locs cells slots Q (F0 m pc ls (.ref a :: rest)) :=
  wd_get X hK hw (C := R_Picture) (T := F_Picture) (N := 8) i_Picture ha rfl 6 (by decide) fl_ClerkRows_118 (fun _ h9 => h9) rfl hdg kk
theorem fg_ClerkRows_25 {v0 v1 v2 v3 v4 v5 : Value} (X : CallFix p m c cc nL s args tb R_ClerkRows) (hK : va_K D classes (ty ca) s) (hw : wd_I D classes A H0 f H locs) (ha : f a = some (.inr (0, [v0, v1, v2, v3, v4, v5]))) (hdg : decode cc pc = .ok (.getfield 25, 3)) (kk : W p l e R s m args below meth c H locs cells slots Q (F0 m (pc + 3) ls (v4 :: rest))) : W p l e R s m args below meth c H locs cells slots Q (F0 m pc ls (.ref a :: rest)) :=
  wd_get X hK hw (C := R_ClerkRows) (T := F_ClerkRows) (N := 6) i_ClerkRows ha rfl 4 (by decide) fl_ClerkRows_25 (fun _ h9 => h9) rfl hdg kk
theorem fg_ClerkRows_131 {v0 v1 v2 v3 v4 v5 v6 v7 : Value} (X : CallFix p m c cc nL s args tb R_ClerkRows) (hK : va_K D classes (ty ca) s) (hw : wd_I D classes A H0 f H locs) (ha : f a = some (.inr (3, [v0, v1, v2, v3, v4, v5, v6, v7]))) (hdg : decode cc pc = .ok (.getfield 131, 3)) (kk : W p l e R s m args below meth c H locs cells slots Q (F0 m (pc + 3) ls (v1 :: rest))) : W p l e R s m args below meth c H locs cells slots Q (F0 m pc ls (.ref a :: rest)) :=
  wd_get X hK hw (C := R_Picture) (T := F_Picture) (N := 8) i_Picture ha rfl 1 (by decide) fl_ClerkRows_131 (fun _ h9 => h9) rfl hdg kk
theorem fp_ClerkRows_134 {v v0 v1 v2 v3 v4 v5 v6 v7 : Value} (X : CallFix p m c cc nL s args tb R_ClerkRows) (hK : va_K D classes (ty ca) s) (hw : wd_I D classes A H0 f H locs) (ha : f a = some (.inr (3, [v0, v1, v2, v3, v4, v5, v6, v7]))) (hn : narrow (.int) v = v) (hfit : fits (.int) v = true) (hdg : decode cc pc = .ok (.putfield 134, 3)) (kk : ∀ (f1 : wd_M) (H1 : Heap) (locs1 : List Loc), f1 = wd_up f a (.inr (3, [v0, v1, v2, v3, v4, v, v6, v7])) → wd_I D classes A H0 f1 H1 locs1 → W p l e R s m args below meth c H1 locs1 cells slots Q (F0 m (pc + 3) ls rest)) : W p l e R s m args below meth c H locs cells slots Q (F0 m pc ls (v :: .ref a :: rest)) :=
  wd_put X hK hw (C := R_Picture) (T := F_Picture) (N := 8) i_Picture t_Picture t_Picture_ok n_Picture ha rfl 5 (by decide) fl_ClerkRows_134 (fun _ h9 => h9) rfl (by decide +kernel) hn hfit (Nat.le_of_ble_eq_true rfl) hdg kk
theorem fp_Model_7 {v v0 v1 v2 v3 v4 v5 v6 v7 v8 v9 v10 v11 v12 v13 v14 v15 v16 : Value} (X : CallFix p m c cc nL s args tb R_Model) (hK : va_K D classes (ty ca) s) (hw : wd_I D classes A H0 f H locs) (hin2 : meth.name = "<init>") (ha : f a = some (.inr (4, [v0, v1, v2, v3, v4, v5, v6, v7, v8, v9, v10, v11, v12, v13, v14, v15, v16]))) (hn : narrow (.array (.long)) v = v) (hfit : fits (.array (.long)) v = true) (hdg : decode cc pc = .ok (.putfield 7, 3)) (kk : ∀ (f1 : wd_M) (H1 : Heap) (locs1 : List Loc), f1 = wd_up f a (.inr (4, [v0, v1, v2, v, v4, v5, v6, v7, v8, v9, v10, v11, v12, v13, v14, v15, v16])) → wd_I D classes A H0 f1 H1 locs1 → W p l e R s m args below meth c H1 locs1 cells slots Q (F0 m (pc + 3) ls rest)) : W p l e R s m args below meth c H locs cells slots Q (F0 m pc ls (v :: .ref a :: rest)) :=
  wd_putF X hK hw hin2 (C := R_Model) (T := F_Model) (N := 17) i_Model t_Model t_Model_ok n_Model ha rfl 3 (by decide) fl_Model_7 (fun _ h9 => h9) rfl rfl (by decide +kernel) hn hfit (Nat.le_of_ble_eq_true rfl) hdg kk
theorem fp_Model_13 {v v0 v1 v2 v3 v4 v5 v6 v7 v8 v9 v10 v11 v12 v13 v14 v15 v16 : Value} (X : CallFix p m c cc nL s args tb R_Model) (hK : va_K D classes (ty ca) s) (hw : wd_I D classes A H0 f H locs) (hin2 : meth.name = "<init>") (ha : f a = some (.inr (4, [v0, v1, v2, v3, v4, v5, v6, v7, v8, v9, v10, v11, v12, v13, v14, v15, v16]))) (hn : narrow (.array (.int)) v = v) (hfit : fits (.array (.int)) v = true) (hdg : decode cc pc = .ok (.putfield 13, 3)) (kk : ∀ (f1 : wd_M) (H1 : Heap) (locs1 : List Loc), f1 = wd_up f a (.inr (4, [v0, v1, v2, v3, v, v5, v6, v7, v8, v9, v10, v11, v12, v13, v14, v15, v16])) → wd_I D classes A H0 f1 H1 locs1 → W p l e R s m args below meth c H1 locs1 cells slots Q (F0 m (pc + 3) ls rest)) : W p l e R s m args below meth c H locs cells slots Q (F0 m pc ls (v :: .ref a :: rest)) :=
  wd_putF X hK hw hin2 (C := R_Model) (T := F_Model) (N := 17) i_Model t_Model t_Model_ok n_Model ha rfl 4 (by decide) fl_Model_13 (fun _ h9 => h9) rfl rfl (by decide +kernel) hn hfit (Nat.le_of_ble_eq_true rfl) hdg kk
theorem fp_Model_17 {v v0 v1 v2 v3 v4 v5 v6 v7 v8 v9 v10 v11 v12 v13 v14 v15 v16 : Value} (X : CallFix p m c cc nL s args tb R_Model) (hK : va_K D classes (ty ca) s) (hw : wd_I D classes A H0 f H locs) (hin2 : meth.name = "<init>") (ha : f a = some (.inr (4, [v0, v1, v2, v3, v4, v5, v6, v7, v8, v9, v10, v11, v12, v13, v14, v15, v16]))) (hn : narrow (.array (.int)) v = v) (hfit : fits (.array (.int)) v = true) (hdg : decode cc pc = .ok (.putfield 17, 3)) (kk : ∀ (f1 : wd_M) (H1 : Heap) (locs1 : List Loc), f1 = wd_up f a (.inr (4, [v0, v1, v2, v3, v4, v, v6, v7, v8, v9, v10, v11, v12, v13, v14, v15, v16])) → wd_I D classes A H0 f1 H1 locs1 → W p l e R s m args below meth c H1 locs1 cells slots Q (F0 m (pc + 3) ls rest)) : W p l e R s m args below meth c H locs cells slots Q (F0 m pc ls (v :: .ref a :: rest)) :=
  wd_putF X hK hw hin2 (C := R_Model) (T := F_Model) (N := 17) i_Model t_Model t_Model_ok n_Model ha rfl 5 (by decide) fl_Model_17 (fun _ h9 => h9) rfl rfl (by decide +kernel) hn hfit (Nat.le_of_ble_eq_true rfl) hdg kk
theorem fp_Model_20 {v v0 v1 v2 v3 v4 v5 v6 v7 v8 v9 v10 v11 v12 v13 v14 v15 v16 : Value} (X : CallFix p m c cc nL s args tb R_Model) (hK : va_K D classes (ty ca) s) (hw : wd_I D classes A H0 f H locs) (hin2 : meth.name = "<init>") (ha : f a = some (.inr (4, [v0, v1, v2, v3, v4, v5, v6, v7, v8, v9, v10, v11, v12, v13, v14, v15, v16]))) (hn : narrow (.array (.int)) v = v) (hfit : fits (.array (.int)) v = true) (hdg : decode cc pc = .ok (.putfield 20, 3)) (kk : ∀ (f1 : wd_M) (H1 : Heap) (locs1 : List Loc), f1 = wd_up f a (.inr (4, [v0, v1, v2, v3, v4, v5, v, v7, v8, v9, v10, v11, v12, v13, v14, v15, v16])) → wd_I D classes A H0 f1 H1 locs1 → W p l e R s m args below meth c H1 locs1 cells slots Q (F0 m (pc + 3) ls rest)) : W p l e R s m args below meth c H locs cells slots Q (F0 m pc ls (v :: .ref a :: rest)) :=
  wd_putF X hK hw hin2 (C := R_Model) (T := F_Model) (N := 17) i_Model t_Model t_Model_ok n_Model ha rfl 6 (by decide) fl_Model_20 (fun _ h9 => h9) rfl rfl (by decide +kernel) hn hfit (Nat.le_of_ble_eq_true rfl) hdg kk
theorem fp_Model_23 {v v0 v1 v2 v3 v4 v5 v6 v7 v8 v9 v10 v11 v12 v13 v14 v15 v16 : Value} (X : CallFix p m c cc nL s args tb R_Model) (hK : va_K D classes (ty ca) s) (hw : wd_I D classes A H0 f H locs) (hin2 : meth.name = "<init>") (ha : f a = some (.inr (4, [v0, v1, v2, v3, v4, v5, v6, v7, v8, v9, v10, v11, v12, v13, v14, v15, v16]))) (hn : narrow (.array (.int)) v = v) (hfit : fits (.array (.int)) v = true) (hdg : decode cc pc = .ok (.putfield 23, 3)) (kk : ∀ (f1 : wd_M) (H1 : Heap) (locs1 : List Loc), f1 = wd_up f a (.inr (4, [v0, v1, v2, v3, v4, v5, v6, v, v8, v9, v10, v11, v12, v13, v14, v15, v16])) → wd_I D classes A H0 f1 H1 locs1 → W p l e R s m args below meth c H1 locs1 cells slots Q (F0 m (pc + 3) ls rest)) : W p l e R s m args below meth c H locs cells slots Q (F0 m pc ls (v :: .ref a :: rest)) :=
  wd_putF X hK hw hin2 (C := R_Model) (T := F_Model) (N := 17) i_Model t_Model t_Model_ok n_Model ha rfl 7 (by decide) fl_Model_23 (fun _ h9 => h9) rfl rfl (by decide +kernel) hn hfit (Nat.le_of_ble_eq_true rfl) hdg kk
theorem fp_Model_26 {v v0 v1 v2 v3 v4 v5 v6 v7 v8 v9 v10 v11 v12 v13 v14 v15 v16 : Value} (X : CallFix p m c cc nL s args tb R_Model) (hK : va_K D classes (ty ca) s) (hw : wd_I D classes A H0 f H locs) (hin2 : meth.name = "<init>") (ha : f a = some (.inr (4, [v0, v1, v2, v3, v4, v5, v6, v7, v8, v9, v10, v11, v12, v13, v14, v15, v16]))) (hn : narrow (.array (.int)) v = v) (hfit : fits (.array (.int)) v = true) (hdg : decode cc pc = .ok (.putfield 26, 3)) (kk : ∀ (f1 : wd_M) (H1 : Heap) (locs1 : List Loc), f1 = wd_up f a (.inr (4, [v0, v1, v2, v3, v4, v5, v6, v7, v, v9, v10, v11, v12, v13, v14, v15, v16])) → wd_I D classes A H0 f1 H1 locs1 → W p l e R s m args below meth c H1 locs1 cells slots Q (F0 m (pc + 3) ls rest)) : W p l e R s m args below meth c H locs cells slots Q (F0 m pc ls (v :: .ref a :: rest)) :=
  wd_putF X hK hw hin2 (C := R_Model) (T := F_Model) (N := 17) i_Model t_Model t_Model_ok n_Model ha rfl 8 (by decide) fl_Model_26 (fun _ h9 => h9) rfl rfl (by decide +kernel) hn hfit (Nat.le_of_ble_eq_true rfl) hdg kk
theorem fp_Model_29 {v v0 v1 v2 v3 v4 v5 v6 v7 v8 v9 v10 v11 v12 v13 v14 v15 v16 : Value} (X : CallFix p m c cc nL s args tb R_Model) (hK : va_K D classes (ty ca) s) (hw : wd_I D classes A H0 f H locs) (hin2 : meth.name = "<init>") (ha : f a = some (.inr (4, [v0, v1, v2, v3, v4, v5, v6, v7, v8, v9, v10, v11, v12, v13, v14, v15, v16]))) (hn : narrow (.array (.int)) v = v) (hfit : fits (.array (.int)) v = true) (hdg : decode cc pc = .ok (.putfield 29, 3)) (kk : ∀ (f1 : wd_M) (H1 : Heap) (locs1 : List Loc), f1 = wd_up f a (.inr (4, [v0, v1, v2, v3, v4, v5, v6, v7, v8, v, v10, v11, v12, v13, v14, v15, v16])) → wd_I D classes A H0 f1 H1 locs1 → W p l e R s m args below meth c H1 locs1 cells slots Q (F0 m (pc + 3) ls rest)) : W p l e R s m args below meth c H locs cells slots Q (F0 m pc ls (v :: .ref a :: rest)) :=
  wd_putF X hK hw hin2 (C := R_Model) (T := F_Model) (N := 17) i_Model t_Model t_Model_ok n_Model ha rfl 9 (by decide) fl_Model_29 (fun _ h9 => h9) rfl rfl (by decide +kernel) hn hfit (Nat.le_of_ble_eq_true rfl) hdg kk
theorem fp_Model_32 {v v0 v1 v2 v3 v4 v5 v6 v7 v8 v9 v10 v11 v12 v13 v14 v15 v16 : Value} (X : CallFix p m c cc nL s args tb R_Model) (hK : va_K D classes (ty ca) s) (hw : wd_I D classes A H0 f H locs) (hin2 : meth.name = "<init>") (ha : f a = some (.inr (4, [v0, v1, v2, v3, v4, v5, v6, v7, v8, v9, v10, v11, v12, v13, v14, v15, v16]))) (hn : narrow (.array (.int)) v = v) (hfit : fits (.array (.int)) v = true) (hdg : decode cc pc = .ok (.putfield 32, 3)) (kk : ∀ (f1 : wd_M) (H1 : Heap) (locs1 : List Loc), f1 = wd_up f a (.inr (4, [v0, v1, v2, v3, v4, v5, v6, v7, v8, v9, v, v11, v12, v13, v14, v15, v16])) → wd_I D classes A H0 f1 H1 locs1 → W p l e R s m args below meth c H1 locs1 cells slots Q (F0 m (pc + 3) ls rest)) : W p l e R s m args below meth c H locs cells slots Q (F0 m pc ls (v :: .ref a :: rest)) :=
  wd_putF X hK hw hin2 (C := R_Model) (T := F_Model) (N := 17) i_Model t_Model t_Model_ok n_Model ha rfl 10 (by decide) fl_Model_32 (fun _ h9 => h9) rfl rfl (by decide +kernel) hn hfit (Nat.le_of_ble_eq_true rfl) hdg kk
theorem fp_Model_35 {v v0 v1 v2 v3 v4 v5 v6 v7 v8 v9 v10 v11 v12 v13 v14 v15 v16 : Value} (X : CallFix p m c cc nL s args tb R_Model) (hK : va_K D classes (ty ca) s) (hw : wd_I D classes A H0 f H locs) (hin2 : meth.name = "<init>") (ha : f a = some (.inr (4, [v0, v1, v2, v3, v4, v5, v6, v7, v8, v9, v10, v11, v12, v13, v14, v15, v16]))) (hn : narrow (.array (.int)) v = v) (hfit : fits (.array (.int)) v = true) (hdg : decode cc pc = .ok (.putfield 35, 3)) (kk : ∀ (f1 : wd_M) (H1 : Heap) (locs1 : List Loc), f1 = wd_up f a (.inr (4, [v0, v1, v2, v3, v4, v5, v6, v7, v8, v9, v10, v, v12, v13, v14, v15, v16])) → wd_I D classes A H0 f1 H1 locs1 → W p l e R s m args below meth c H1 locs1 cells slots Q (F0 m (pc + 3) ls rest)) : W p l e R s m args below meth c H locs cells slots Q (F0 m pc ls (v :: .ref a :: rest)) :=
  wd_putF X hK hw hin2 (C := R_Model) (T := F_Model) (N := 17) i_Model t_Model t_Model_ok n_Model ha rfl 11 (by decide) fl_Model_35 (fun _ h9 => h9) rfl rfl (by decide +kernel) hn hfit (Nat.le_of_ble_eq_true rfl) hdg kk
theorem fp_Model_38 {v v0 v1 v2 v3 v4 v5 v6 v7 v8 v9 v10 v11 v12 v13 v14 v15 v16 : Value} (X : CallFix p m c cc nL s args tb R_Model) (hK : va_K D classes (ty ca) s) (hw : wd_I D classes A H0 f H locs) (hin2 : meth.name = "<init>") (ha : f a = some (.inr (4, [v0, v1, v2, v3, v4, v5, v6, v7, v8, v9, v10, v11, v12, v13, v14, v15, v16]))) (hn : narrow (.array (.boolean)) v = v) (hfit : fits (.array (.boolean)) v = true) (hdg : decode cc pc = .ok (.putfield 38, 3)) (kk : ∀ (f1 : wd_M) (H1 : Heap) (locs1 : List Loc), f1 = wd_up f a (.inr (4, [v0, v1, v2, v3, v4, v5, v6, v7, v8, v9, v10, v11, v, v13, v14, v15, v16])) → wd_I D classes A H0 f1 H1 locs1 → W p l e R s m args below meth c H1 locs1 cells slots Q (F0 m (pc + 3) ls rest)) : W p l e R s m args below meth c H locs cells slots Q (F0 m pc ls (v :: .ref a :: rest)) :=
  wd_putF X hK hw hin2 (C := R_Model) (T := F_Model) (N := 17) i_Model t_Model t_Model_ok n_Model ha rfl 12 (by decide) fl_Model_38 (fun _ h9 => h9) rfl rfl (by decide +kernel) hn hfit (Nat.le_of_ble_eq_true rfl) hdg kk
theorem fp_Model_42 {v v0 v1 v2 v3 v4 v5 v6 v7 v8 v9 v10 v11 v12 v13 v14 v15 v16 : Value} (X : CallFix p m c cc nL s args tb R_Model) (hK : va_K D classes (ty ca) s) (hw : wd_I D classes A H0 f H locs) (hin2 : meth.name = "<init>") (ha : f a = some (.inr (4, [v0, v1, v2, v3, v4, v5, v6, v7, v8, v9, v10, v11, v12, v13, v14, v15, v16]))) (hn : narrow (.array (.int)) v = v) (hfit : fits (.array (.int)) v = true) (hdg : decode cc pc = .ok (.putfield 42, 3)) (kk : ∀ (f1 : wd_M) (H1 : Heap) (locs1 : List Loc), f1 = wd_up f a (.inr (4, [v0, v1, v2, v3, v4, v5, v6, v7, v8, v9, v10, v11, v12, v, v14, v15, v16])) → wd_I D classes A H0 f1 H1 locs1 → W p l e R s m args below meth c H1 locs1 cells slots Q (F0 m (pc + 3) ls rest)) : W p l e R s m args below meth c H locs cells slots Q (F0 m pc ls (v :: .ref a :: rest)) :=
  wd_putF X hK hw hin2 (C := R_Model) (T := F_Model) (N := 17) i_Model t_Model t_Model_ok n_Model ha rfl 13 (by decide) fl_Model_42 (fun _ h9 => h9) rfl rfl (by decide +kernel) hn hfit (Nat.le_of_ble_eq_true rfl) hdg kk
theorem fp_Model_45 {v v0 v1 v2 v3 v4 v5 v6 v7 v8 v9 v10 v11 v12 v13 v14 v15 v16 : Value} (X : CallFix p m c cc nL s args tb R_Model) (hK : va_K D classes (ty ca) s) (hw : wd_I D classes A H0 f H locs) (hin2 : meth.name = "<init>") (ha : f a = some (.inr (4, [v0, v1, v2, v3, v4, v5, v6, v7, v8, v9, v10, v11, v12, v13, v14, v15, v16]))) (hn : narrow (.array (.int)) v = v) (hfit : fits (.array (.int)) v = true) (hdg : decode cc pc = .ok (.putfield 45, 3)) (kk : ∀ (f1 : wd_M) (H1 : Heap) (locs1 : List Loc), f1 = wd_up f a (.inr (4, [v0, v1, v2, v3, v4, v5, v6, v7, v8, v9, v10, v11, v12, v13, v, v15, v16])) → wd_I D classes A H0 f1 H1 locs1 → W p l e R s m args below meth c H1 locs1 cells slots Q (F0 m (pc + 3) ls rest)) : W p l e R s m args below meth c H locs cells slots Q (F0 m pc ls (v :: .ref a :: rest)) :=
  wd_putF X hK hw hin2 (C := R_Model) (T := F_Model) (N := 17) i_Model t_Model t_Model_ok n_Model ha rfl 14 (by decide) fl_Model_45 (fun _ h9 => h9) rfl rfl (by decide +kernel) hn hfit (Nat.le_of_ble_eq_true rfl) hdg kk
theorem fp_Model_48 {v v0 v1 v2 v3 v4 v5 v6 v7 v8 v9 v10 v11 v12 v13 v14 v15 v16 : Value} (X : CallFix p m c cc nL s args tb R_Model) (hK : va_K D classes (ty ca) s) (hw : wd_I D classes A H0 f H locs) (hin2 : meth.name = "<init>") (ha : f a = some (.inr (4, [v0, v1, v2, v3, v4, v5, v6, v7, v8, v9, v10, v11, v12, v13, v14, v15, v16]))) (hn : narrow (.int) v = v) (hfit : fits (.int) v = true) (hdg : decode cc pc = .ok (.putfield 48, 3)) (kk : ∀ (f1 : wd_M) (H1 : Heap) (locs1 : List Loc), f1 = wd_up f a (.inr (4, [v0, v, v2, v3, v4, v5, v6, v7, v8, v9, v10, v11, v12, v13, v14, v15, v16])) → wd_I D classes A H0 f1 H1 locs1 → W p l e R s m args below meth c H1 locs1 cells slots Q (F0 m (pc + 3) ls rest)) : W p l e R s m args below meth c H locs cells slots Q (F0 m pc ls (v :: .ref a :: rest)) :=
  wd_putF X hK hw hin2 (C := R_Model) (T := F_Model) (N := 17) i_Model t_Model t_Model_ok n_Model ha rfl 1 (by decide) fl_Model_48 (fun _ h9 => h9) rfl rfl (by decide +kernel) hn hfit (Nat.le_of_ble_eq_true rfl) hdg kk
theorem fg_Model_35 {v0 v1 v2 v3 v4 v5 v6 v7 v8 v9 v10 v11 v12 v13 v14 v15 v16 : Value} (X : CallFix p m c cc nL s args tb R_Model) (hK : va_K D classes (ty ca) s) (hw : wd_I D classes A H0 f H locs) (ha : f a = some (.inr (4, [v0, v1, v2, v3, v4, v5, v6, v7, v8, v9, v10, v11, v12, v13, v14, v15, v16]))) (hdg : decode cc pc = .ok (.getfield 35, 3)) (kk : W p l e R s m args below meth c H locs cells slots Q (F0 m (pc + 3) ls (v11 :: rest))) : W p l e R s m args below meth c H locs cells slots Q (F0 m pc ls (.ref a :: rest)) :=
  wd_get X hK hw (C := R_Model) (T := F_Model) (N := 17) i_Model ha rfl 11 (by decide) fl_Model_35 (fun _ h9 => h9) rfl hdg kk
theorem fg_Model_55 {v0 v1 v2 v3 v4 v5 v6 v7 v8 v9 v10 v11 v12 v13 v14 v15 v16 : Value} (X : CallFix p m c cc nL s args tb R_Model) (hK : va_K D classes (ty ca) s) (hw : wd_I D classes A H0 f H locs) (ha : f a = some (.inr (4, [v0, v1, v2, v3, v4, v5, v6, v7, v8, v9, v10, v11, v12, v13, v14, v15, v16]))) (hdg : decode cc pc = .ok (.getfield 55, 3)) (kk : W p l e R s m args below meth c H locs cells slots Q (F0 m (pc + 3) ls (v2 :: rest))) : W p l e R s m args below meth c H locs cells slots Q (F0 m pc ls (.ref a :: rest)) :=
  wd_get X hK hw (C := R_Model) (T := F_Model) (N := 17) i_Model ha rfl 2 (by decide) fl_Model_55 (fun _ h9 => h9) rfl hdg kk
theorem fg_Model_64 {v0 v1 v2 v3 v4 v5 v6 v7 v8 v9 v10 v11 v12 v13 v14 v15 v16 : Value} (X : CallFix p m c cc nL s args tb R_Model) (hK : va_K D classes (ty ca) s) (hw : wd_I D classes A H0 f H locs) (ha : f a = some (.inr (4, [v0, v1, v2, v3, v4, v5, v6, v7, v8, v9, v10, v11, v12, v13, v14, v15, v16]))) (hdg : decode cc pc = .ok (.getfield 64, 3)) (kk : W p l e R s m args below meth c H locs cells slots Q (F0 m (pc + 3) ls (v15 :: rest))) : W p l e R s m args below meth c H locs cells slots Q (F0 m pc ls (.ref a :: rest)) :=
  wd_get X hK hw (C := R_Model) (T := F_Model) (N := 17) i_Model ha rfl 15 (by decide) fl_Model_64 (fun _ h9 => h9) rfl hdg kk
theorem fg_Model_17 {v0 v1 v2 v3 v4 v5 v6 v7 v8 v9 v10 v11 v12 v13 v14 v15 v16 : Value} (X : CallFix p m c cc nL s args tb R_Model) (hK : va_K D classes (ty ca) s) (hw : wd_I D classes A H0 f H locs) (ha : f a = some (.inr (4, [v0, v1, v2, v3, v4, v5, v6, v7, v8, v9, v10, v11, v12, v13, v14, v15, v16]))) (hdg : decode cc pc = .ok (.getfield 17, 3)) (kk : W p l e R s m args below meth c H locs cells slots Q (F0 m (pc + 3) ls (v5 :: rest))) : W p l e R s m args below meth c H locs cells slots Q (F0 m pc ls (.ref a :: rest)) :=
  wd_get X hK hw (C := R_Model) (T := F_Model) (N := 17) i_Model ha rfl 5 (by decide) fl_Model_17 (fun _ h9 => h9) rfl hdg kk
theorem fp_Model_52 {v v0 v1 v2 v3 v4 v5 v6 v7 v8 v9 v10 v11 v12 v13 v14 v15 v16 : Value} (X : CallFix p m c cc nL s args tb R_Model) (hK : va_K D classes (ty ca) s) (hw : wd_I D classes A H0 f H locs) (ha : f a = some (.inr (4, [v0, v1, v2, v3, v4, v5, v6, v7, v8, v9, v10, v11, v12, v13, v14, v15, v16]))) (hn : narrow (.int) v = v) (hfit : fits (.int) v = true) (hdg : decode cc pc = .ok (.putfield 52, 3)) (kk : ∀ (f1 : wd_M) (H1 : Heap) (locs1 : List Loc), f1 = wd_up f a (.inr (4, [v, v1, v2, v3, v4, v5, v6, v7, v8, v9, v10, v11, v12, v13, v14, v15, v16])) → wd_I D classes A H0 f1 H1 locs1 → W p l e R s m args below meth c H1 locs1 cells slots Q (F0 m (pc + 3) ls rest)) : W p l e R s m args below meth c H locs cells slots Q (F0 m pc ls (v :: .ref a :: rest)) :=
  wd_put X hK hw (C := R_Model) (T := F_Model) (N := 17) i_Model t_Model t_Model_ok n_Model ha rfl 0 (by decide) fl_Model_52 (fun _ h9 => h9) rfl (by decide +kernel) hn hfit (Nat.le_of_ble_eq_true rfl) hdg kk
theorem fg_Model_48 {v0 v1 v2 v3 v4 v5 v6 v7 v8 v9 v10 v11 v12 v13 v14 v15 v16 : Value} (X : CallFix p m c cc nL s args tb R_Model) (hK : va_K D classes (ty ca) s) (hw : wd_I D classes A H0 f H locs) (ha : f a = some (.inr (4, [v0, v1, v2, v3, v4, v5, v6, v7, v8, v9, v10, v11, v12, v13, v14, v15, v16]))) (hdg : decode cc pc = .ok (.getfield 48, 3)) (kk : W p l e R s m args below meth c H locs cells slots Q (F0 m (pc + 3) ls (v1 :: rest))) : W p l e R s m args below meth c H locs cells slots Q (F0 m pc ls (.ref a :: rest)) :=
  wd_get X hK hw (C := R_Model) (T := F_Model) (N := 17) i_Model ha rfl 1 (by decide) fl_Model_48 (fun _ h9 => h9) rfl hdg kk
theorem fp_Model_55 {v v0 v1 v2 v3 v4 v5 v6 v7 v8 v9 v10 v11 v12 v13 v14 v15 v16 : Value} (X : CallFix p m c cc nL s args tb R_Model) (hK : va_K D classes (ty ca) s) (hw : wd_I D classes A H0 f H locs) (ha : f a = some (.inr (4, [v0, v1, v2, v3, v4, v5, v6, v7, v8, v9, v10, v11, v12, v13, v14, v15, v16]))) (hn : narrow (.int) v = v) (hfit : fits (.int) v = true) (hdg : decode cc pc = .ok (.putfield 55, 3)) (kk : ∀ (f1 : wd_M) (H1 : Heap) (locs1 : List Loc), f1 = wd_up f a (.inr (4, [v0, v1, v, v3, v4, v5, v6, v7, v8, v9, v10, v11, v12, v13, v14, v15, v16])) → wd_I D classes A H0 f1 H1 locs1 → W p l e R s m args below meth c H1 locs1 cells slots Q (F0 m (pc + 3) ls rest)) : W p l e R s m args below meth c H locs cells slots Q (F0 m pc ls (v :: .ref a :: rest)) :=
  wd_put X hK hw (C := R_Model) (T := F_Model) (N := 17) i_Model t_Model t_Model_ok n_Model ha rfl 2 (by decide) fl_Model_55 (fun _ h9 => h9) rfl (by decide +kernel) hn hfit (Nat.le_of_ble_eq_true rfl) hdg kk
theorem fg_Model_7 {v0 v1 v2 v3 v4 v5 v6 v7 v8 v9 v10 v11 v12 v13 v14 v15 v16 : Value} (X : CallFix p m c cc nL s args tb R_Model) (hK : va_K D classes (ty ca) s) (hw : wd_I D classes A H0 f H locs) (ha : f a = some (.inr (4, [v0, v1, v2, v3, v4, v5, v6, v7, v8, v9, v10, v11, v12, v13, v14, v15, v16]))) (hdg : decode cc pc = .ok (.getfield 7, 3)) (kk : W p l e R s m args below meth c H locs cells slots Q (F0 m (pc + 3) ls (v3 :: rest))) : W p l e R s m args below meth c H locs cells slots Q (F0 m pc ls (.ref a :: rest)) :=
  wd_get X hK hw (C := R_Model) (T := F_Model) (N := 17) i_Model ha rfl 3 (by decide) fl_Model_7 (fun _ h9 => h9) rfl hdg kk
theorem fg_Model_13 {v0 v1 v2 v3 v4 v5 v6 v7 v8 v9 v10 v11 v12 v13 v14 v15 v16 : Value} (X : CallFix p m c cc nL s args tb R_Model) (hK : va_K D classes (ty ca) s) (hw : wd_I D classes A H0 f H locs) (ha : f a = some (.inr (4, [v0, v1, v2, v3, v4, v5, v6, v7, v8, v9, v10, v11, v12, v13, v14, v15, v16]))) (hdg : decode cc pc = .ok (.getfield 13, 3)) (kk : W p l e R s m args below meth c H locs cells slots Q (F0 m (pc + 3) ls (v4 :: rest))) : W p l e R s m args below meth c H locs cells slots Q (F0 m pc ls (.ref a :: rest)) :=
  wd_get X hK hw (C := R_Model) (T := F_Model) (N := 17) i_Model ha rfl 4 (by decide) fl_Model_13 (fun _ h9 => h9) rfl hdg kk
theorem fp_Model_64 {v v0 v1 v2 v3 v4 v5 v6 v7 v8 v9 v10 v11 v12 v13 v14 v15 v16 : Value} (X : CallFix p m c cc nL s args tb R_Model) (hK : va_K D classes (ty ca) s) (hw : wd_I D classes A H0 f H locs) (ha : f a = some (.inr (4, [v0, v1, v2, v3, v4, v5, v6, v7, v8, v9, v10, v11, v12, v13, v14, v15, v16]))) (hn : narrow (.long) v = v) (hfit : fits (.long) v = true) (hdg : decode cc pc = .ok (.putfield 64, 3)) (kk : ∀ (f1 : wd_M) (H1 : Heap) (locs1 : List Loc), f1 = wd_up f a (.inr (4, [v0, v1, v2, v3, v4, v5, v6, v7, v8, v9, v10, v11, v12, v13, v14, v, v16])) → wd_I D classes A H0 f1 H1 locs1 → W p l e R s m args below meth c H1 locs1 cells slots Q (F0 m (pc + 3) ls rest)) : W p l e R s m args below meth c H locs cells slots Q (F0 m pc ls (v :: .ref a :: rest)) :=
  wd_put X hK hw (C := R_Model) (T := F_Model) (N := 17) i_Model t_Model t_Model_ok n_Model ha rfl 15 (by decide) fl_Model_64 (fun _ h9 => h9) rfl (by decide +kernel) hn hfit (Nat.le_of_ble_eq_true rfl) hdg kk
theorem fg_Model_80 {v0 v1 v2 v3 v4 v5 v6 v7 v8 v9 v10 v11 v12 v13 v14 v15 v16 : Value} (X : CallFix p m c cc nL s args tb R_Model) (hK : va_K D classes (ty ca) s) (hw : wd_I D classes A H0 f H locs) (ha : f a = some (.inr (4, [v0, v1, v2, v3, v4, v5, v6, v7, v8, v9, v10, v11, v12, v13, v14, v15, v16]))) (hdg : decode cc pc = .ok (.getfield 80, 3)) (kk : W p l e R s m args below meth c H locs cells slots Q (F0 m (pc + 3) ls (v16 :: rest))) : W p l e R s m args below meth c H locs cells slots Q (F0 m pc ls (.ref a :: rest)) :=
  wd_get X hK hw (C := R_Model) (T := F_Model) (N := 17) i_Model ha rfl 16 (by decide) fl_Model_80 (fun _ h9 => h9) rfl hdg kk
theorem fp_Model_80 {v v0 v1 v2 v3 v4 v5 v6 v7 v8 v9 v10 v11 v12 v13 v14 v15 v16 : Value} (X : CallFix p m c cc nL s args tb R_Model) (hK : va_K D classes (ty ca) s) (hw : wd_I D classes A H0 f H locs) (ha : f a = some (.inr (4, [v0, v1, v2, v3, v4, v5, v6, v7, v8, v9, v10, v11, v12, v13, v14, v15, v16]))) (hn : narrow (.int) v = v) (hfit : fits (.int) v = true) (hdg : decode cc pc = .ok (.putfield 80, 3)) (kk : ∀ (f1 : wd_M) (H1 : Heap) (locs1 : List Loc), f1 = wd_up f a (.inr (4, [v0, v1, v2, v3, v4, v5, v6, v7, v8, v9, v10, v11, v12, v13, v14, v15, v])) → wd_I D classes A H0 f1 H1 locs1 → W p l e R s m args below meth c H1 locs1 cells slots Q (F0 m (pc + 3) ls rest)) : W p l e R s m args below meth c H locs cells slots Q (F0 m pc ls (v :: .ref a :: rest)) :=
  wd_put X hK hw (C := R_Model) (T := F_Model) (N := 17) i_Model t_Model t_Model_ok n_Model ha rfl 16 (by decide) fl_Model_80 (fun _ h9 => h9) rfl (by decide +kernel) hn hfit (Nat.le_of_ble_eq_true rfl) hdg kk
theorem fg_Model_29 {v0 v1 v2 v3 v4 v5 v6 v7 v8 v9 v10 v11 v12 v13 v14 v15 v16 : Value} (X : CallFix p m c cc nL s args tb R_Model) (hK : va_K D classes (ty ca) s) (hw : wd_I D classes A H0 f H locs) (ha : f a = some (.inr (4, [v0, v1, v2, v3, v4, v5, v6, v7, v8, v9, v10, v11, v12, v13, v14, v15, v16]))) (hdg : decode cc pc = .ok (.getfield 29, 3)) (kk : W p l e R s m args below meth c H locs cells slots Q (F0 m (pc + 3) ls (v9 :: rest))) : W p l e R s m args below meth c H locs cells slots Q (F0 m pc ls (.ref a :: rest)) :=
  wd_get X hK hw (C := R_Model) (T := F_Model) (N := 17) i_Model ha rfl 9 (by decide) fl_Model_29 (fun _ h9 => h9) rfl hdg kk
theorem fg_Model_23 {v0 v1 v2 v3 v4 v5 v6 v7 v8 v9 v10 v11 v12 v13 v14 v15 v16 : Value} (X : CallFix p m c cc nL s args tb R_Model) (hK : va_K D classes (ty ca) s) (hw : wd_I D classes A H0 f H locs) (ha : f a = some (.inr (4, [v0, v1, v2, v3, v4, v5, v6, v7, v8, v9, v10, v11, v12, v13, v14, v15, v16]))) (hdg : decode cc pc = .ok (.getfield 23, 3)) (kk : W p l e R s m args below meth c H locs cells slots Q (F0 m (pc + 3) ls (v7 :: rest))) : W p l e R s m args below meth c H locs cells slots Q (F0 m pc ls (.ref a :: rest)) :=
  wd_get X hK hw (C := R_Model) (T := F_Model) (N := 17) i_Model ha rfl 7 (by decide) fl_Model_23 (fun _ h9 => h9) rfl hdg kk
theorem fg_Model_26 {v0 v1 v2 v3 v4 v5 v6 v7 v8 v9 v10 v11 v12 v13 v14 v15 v16 : Value} (X : CallFix p m c cc nL s args tb R_Model) (hK : va_K D classes (ty ca) s) (hw : wd_I D classes A H0 f H locs) (ha : f a = some (.inr (4, [v0, v1, v2, v3, v4, v5, v6, v7, v8, v9, v10, v11, v12, v13, v14, v15, v16]))) (hdg : decode cc pc = .ok (.getfield 26, 3)) (kk : W p l e R s m args below meth c H locs cells slots Q (F0 m (pc + 3) ls (v8 :: rest))) : W p l e R s m args below meth c H locs cells slots Q (F0 m pc ls (.ref a :: rest)) :=
  wd_get X hK hw (C := R_Model) (T := F_Model) (N := 17) i_Model ha rfl 8 (by decide) fl_Model_26 (fun _ h9 => h9) rfl hdg kk
theorem fg_Model_45 {v0 v1 v2 v3 v4 v5 v6 v7 v8 v9 v10 v11 v12 v13 v14 v15 v16 : Value} (X : CallFix p m c cc nL s args tb R_Model) (hK : va_K D classes (ty ca) s) (hw : wd_I D classes A H0 f H locs) (ha : f a = some (.inr (4, [v0, v1, v2, v3, v4, v5, v6, v7, v8, v9, v10, v11, v12, v13, v14, v15, v16]))) (hdg : decode cc pc = .ok (.getfield 45, 3)) (kk : W p l e R s m args below meth c H locs cells slots Q (F0 m (pc + 3) ls (v14 :: rest))) : W p l e R s m args below meth c H locs cells slots Q (F0 m pc ls (.ref a :: rest)) :=
  wd_get X hK hw (C := R_Model) (T := F_Model) (N := 17) i_Model ha rfl 14 (by decide) fl_Model_45 (fun _ h9 => h9) rfl hdg kk
theorem fg_Model_32 {v0 v1 v2 v3 v4 v5 v6 v7 v8 v9 v10 v11 v12 v13 v14 v15 v16 : Value} (X : CallFix p m c cc nL s args tb R_Model) (hK : va_K D classes (ty ca) s) (hw : wd_I D classes A H0 f H locs) (ha : f a = some (.inr (4, [v0, v1, v2, v3, v4, v5, v6, v7, v8, v9, v10, v11, v12, v13, v14, v15, v16]))) (hdg : decode cc pc = .ok (.getfield 32, 3)) (kk : W p l e R s m args below meth c H locs cells slots Q (F0 m (pc + 3) ls (v10 :: rest))) : W p l e R s m args below meth c H locs cells slots Q (F0 m pc ls (.ref a :: rest)) :=
  wd_get X hK hw (C := R_Model) (T := F_Model) (N := 17) i_Model ha rfl 10 (by decide) fl_Model_32 (fun _ h9 => h9) rfl hdg kk
theorem fg_Model_42 {v0 v1 v2 v3 v4 v5 v6 v7 v8 v9 v10 v11 v12 v13 v14 v15 v16 : Value} (X : CallFix p m c cc nL s args tb R_Model) (hK : va_K D classes (ty ca) s) (hw : wd_I D classes A H0 f H locs) (ha : f a = some (.inr (4, [v0, v1, v2, v3, v4, v5, v6, v7, v8, v9, v10, v11, v12, v13, v14, v15, v16]))) (hdg : decode cc pc = .ok (.getfield 42, 3)) (kk : W p l e R s m args below meth c H locs cells slots Q (F0 m (pc + 3) ls (v13 :: rest))) : W p l e R s m args below meth c H locs cells slots Q (F0 m pc ls (.ref a :: rest)) :=
  wd_get X hK hw (C := R_Model) (T := F_Model) (N := 17) i_Model ha rfl 13 (by decide) fl_Model_42 (fun _ h9 => h9) rfl hdg kk
theorem fg_Model_38 {v0 v1 v2 v3 v4 v5 v6 v7 v8 v9 v10 v11 v12 v13 v14 v15 v16 : Value} (X : CallFix p m c cc nL s args tb R_Model) (hK : va_K D classes (ty ca) s) (hw : wd_I D classes A H0 f H locs) (ha : f a = some (.inr (4, [v0, v1, v2, v3, v4, v5, v6, v7, v8, v9, v10, v11, v12, v13, v14, v15, v16]))) (hdg : decode cc pc = .ok (.getfield 38, 3)) (kk : W p l e R s m args below meth c H locs cells slots Q (F0 m (pc + 3) ls (v12 :: rest))) : W p l e R s m args below meth c H locs cells slots Q (F0 m pc ls (.ref a :: rest)) :=
  wd_get X hK hw (C := R_Model) (T := F_Model) (N := 17) i_Model ha rfl 12 (by decide) fl_Model_38 (fun _ h9 => h9) rfl hdg kk
theorem fg_Model_20 {v0 v1 v2 v3 v4 v5 v6 v7 v8 v9 v10 v11 v12 v13 v14 v15 v16 : Value} (X : CallFix p m c cc nL s args tb R_Model) (hK : va_K D classes (ty ca) s) (hw : wd_I D classes A H0 f H locs) (ha : f a = some (.inr (4, [v0, v1, v2, v3, v4, v5, v6, v7, v8, v9, v10, v11, v12, v13, v14, v15, v16]))) (hdg : decode cc pc = .ok (.getfield 20, 3)) (kk : W p l e R s m args below meth c H locs cells slots Q (F0 m (pc + 3) ls (v6 :: rest))) : W p l e R s m args below meth c H locs cells slots Q (F0 m pc ls (.ref a :: rest)) :=
  wd_get X hK hw (C := R_Model) (T := F_Model) (N := 17) i_Model ha rfl 6 (by decide) fl_Model_20 (fun _ h9 => h9) rfl hdg kk
theorem fp_Clerk_7 {v v0 v1 v2 v3 v4 : Value} (X : CallFix p m c cc nL s args tb R_Clerk) (hK : va_K D classes (ty ca) s) (hw : wd_I D classes A H0 f H locs) (ha : f a = some (.inr (1, [v0, v1, v2, v3, v4]))) (hn : narrow (.boolean) v = v) (hfit : fits (.boolean) v = true) (hdg : decode cc pc = .ok (.putfield 7, 3)) (kk : ∀ (f1 : wd_M) (H1 : Heap) (locs1 : List Loc), f1 = wd_up f a (.inr (1, [v0, v, v2, v3, v4])) → wd_I D classes A H0 f1 H1 locs1 → W p l e R s m args below meth c H1 locs1 cells slots Q (F0 m (pc + 3) ls rest)) : W p l e R s m args below meth c H locs cells slots Q (F0 m pc ls (v :: .ref a :: rest)) :=
  wd_put X hK hw (C := R_Clerk) (T := F_Clerk) (N := 5) i_Clerk t_Clerk t_Clerk_ok n_Clerk ha rfl 1 (by decide) fl_Clerk_7 (fun _ h9 => h9) rfl (by decide +kernel) hn hfit (Nat.le_of_ble_eq_true rfl) hdg kk
theorem fp_Clerk_13 {v v0 v1 v2 v3 v4 : Value} (X : CallFix p m c cc nL s args tb R_Clerk) (hK : va_K D classes (ty ca) s) (hw : wd_I D classes A H0 f H locs) (ha : f a = some (.inr (1, [v0, v1, v2, v3, v4]))) (hn : narrow (.int) v = v) (hfit : fits (.int) v = true) (hdg : decode cc pc = .ok (.putfield 13, 3)) (kk : ∀ (f1 : wd_M) (H1 : Heap) (locs1 : List Loc), f1 = wd_up f a (.inr (1, [v0, v1, v, v3, v4])) → wd_I D classes A H0 f1 H1 locs1 → W p l e R s m args below meth c H1 locs1 cells slots Q (F0 m (pc + 3) ls rest)) : W p l e R s m args below meth c H locs cells slots Q (F0 m pc ls (v :: .ref a :: rest)) :=
  wd_put X hK hw (C := R_Clerk) (T := F_Clerk) (N := 5) i_Clerk t_Clerk t_Clerk_ok n_Clerk ha rfl 2 (by decide) fl_Clerk_13 (fun _ h9 => h9) rfl (by decide +kernel) hn hfit (Nat.le_of_ble_eq_true rfl) hdg kk
theorem fp_Clerk_17 {v v0 v1 v2 v3 v4 : Value} (X : CallFix p m c cc nL s args tb R_Clerk) (hK : va_K D classes (ty ca) s) (hw : wd_I D classes A H0 f H locs) (ha : f a = some (.inr (1, [v0, v1, v2, v3, v4]))) (hn : narrow (.int) v = v) (hfit : fits (.int) v = true) (hdg : decode cc pc = .ok (.putfield 17, 3)) (kk : ∀ (f1 : wd_M) (H1 : Heap) (locs1 : List Loc), f1 = wd_up f a (.inr (1, [v0, v1, v2, v, v4])) → wd_I D classes A H0 f1 H1 locs1 → W p l e R s m args below meth c H1 locs1 cells slots Q (F0 m (pc + 3) ls rest)) : W p l e R s m args below meth c H locs cells slots Q (F0 m pc ls (v :: .ref a :: rest)) :=
  wd_put X hK hw (C := R_Clerk) (T := F_Clerk) (N := 5) i_Clerk t_Clerk t_Clerk_ok n_Clerk ha rfl 3 (by decide) fl_Clerk_17 (fun _ h9 => h9) rfl (by decide +kernel) hn hfit (Nat.le_of_ble_eq_true rfl) hdg kk
theorem fp_Clerk_20 {v v0 v1 v2 v3 v4 : Value} (X : CallFix p m c cc nL s args tb R_Clerk) (hK : va_K D classes (ty ca) s) (hw : wd_I D classes A H0 f H locs) (ha : f a = some (.inr (1, [v0, v1, v2, v3, v4]))) (hn : narrow (.object "ClerkRows$Turn") v = v) (hfit : fits (.object "ClerkRows$Turn") v = true) (hdg : decode cc pc = .ok (.putfield 20, 3)) (kk : ∀ (f1 : wd_M) (H1 : Heap) (locs1 : List Loc), f1 = wd_up f a (.inr (1, [v0, v1, v2, v3, v])) → wd_I D classes A H0 f1 H1 locs1 → W p l e R s m args below meth c H1 locs1 cells slots Q (F0 m (pc + 3) ls rest)) : W p l e R s m args below meth c H locs cells slots Q (F0 m pc ls (v :: .ref a :: rest)) :=
  wd_put X hK hw (C := R_Clerk) (T := F_Clerk) (N := 5) i_Clerk t_Clerk t_Clerk_ok n_Clerk ha rfl 4 (by decide) fl_Clerk_20 (fun _ h9 => h9) rfl (by decide +kernel) hn hfit (Nat.le_of_ble_eq_true rfl) hdg kk
theorem fp_Clerk_24 {v v0 v1 v2 v3 v4 : Value} (X : CallFix p m c cc nL s args tb R_Clerk) (hK : va_K D classes (ty ca) s) (hw : wd_I D classes A H0 f H locs) (hin2 : meth.name = "<init>") (ha : f a = some (.inr (1, [v0, v1, v2, v3, v4]))) (hn : narrow (.int) v = v) (hfit : fits (.int) v = true) (hdg : decode cc pc = .ok (.putfield 24, 3)) (kk : ∀ (f1 : wd_M) (H1 : Heap) (locs1 : List Loc), f1 = wd_up f a (.inr (1, [v, v1, v2, v3, v4])) → wd_I D classes A H0 f1 H1 locs1 → W p l e R s m args below meth c H1 locs1 cells slots Q (F0 m (pc + 3) ls rest)) : W p l e R s m args below meth c H locs cells slots Q (F0 m pc ls (v :: .ref a :: rest)) :=
  wd_putF X hK hw hin2 (C := R_Clerk) (T := F_Clerk) (N := 5) i_Clerk t_Clerk t_Clerk_ok n_Clerk ha rfl 0 (by decide) fl_Clerk_24 (fun _ h9 => h9) rfl rfl (by decide +kernel) hn hfit (Nat.le_of_ble_eq_true rfl) hdg kk
theorem fp_Picture_9 {v v0 v1 v2 v3 v4 v5 v6 v7 : Value} (X : CallFix p m c cc nL s args tb R_Picture) (hK : va_K D classes (ty ca) s) (hw : wd_I D classes A H0 f H locs) (ha : f a = some (.inr (3, [v0, v1, v2, v3, v4, v5, v6, v7]))) (hn : narrow (.int) v = v) (hfit : fits (.int) v = true) (hdg : decode cc pc = .ok (.putfield 9, 3)) (kk : ∀ (f1 : wd_M) (H1 : Heap) (locs1 : List Loc), f1 = wd_up f a (.inr (3, [v0, v1, v2, v, v4, v5, v6, v7])) → wd_I D classes A H0 f1 H1 locs1 → W p l e R s m args below meth c H1 locs1 cells slots Q (F0 m (pc + 3) ls rest)) : W p l e R s m args below meth c H locs cells slots Q (F0 m pc ls (v :: .ref a :: rest)) :=
  wd_put X hK hw (C := R_Picture) (T := F_Picture) (N := 8) i_Picture t_Picture t_Picture_ok n_Picture ha rfl 3 (by decide) fl_Picture_9 (fun _ h9 => h9) rfl (by decide +kernel) hn hfit (Nat.le_of_ble_eq_true rfl) hdg kk
theorem fp_Picture_15 {v v0 v1 v2 v3 v4 v5 v6 v7 : Value} (X : CallFix p m c cc nL s args tb R_Picture) (hK : va_K D classes (ty ca) s) (hw : wd_I D classes A H0 f H locs) (ha : f a = some (.inr (3, [v0, v1, v2, v3, v4, v5, v6, v7]))) (hn : narrow (.int) v = v) (hfit : fits (.int) v = true) (hdg : decode cc pc = .ok (.putfield 15, 3)) (kk : ∀ (f1 : wd_M) (H1 : Heap) (locs1 : List Loc), f1 = wd_up f a (.inr (3, [v0, v1, v2, v3, v, v5, v6, v7])) → wd_I D classes A H0 f1 H1 locs1 → W p l e R s m args below meth c H1 locs1 cells slots Q (F0 m (pc + 3) ls rest)) : W p l e R s m args below meth c H locs cells slots Q (F0 m pc ls (v :: .ref a :: rest)) :=
  wd_put X hK hw (C := R_Picture) (T := F_Picture) (N := 8) i_Picture t_Picture t_Picture_ok n_Picture ha rfl 4 (by decide) fl_Picture_15 (fun _ h9 => h9) rfl (by decide +kernel) hn hfit (Nat.le_of_ble_eq_true rfl) hdg kk
theorem fp_Picture_18 {v v0 v1 v2 v3 v4 v5 v6 v7 : Value} (X : CallFix p m c cc nL s args tb R_Picture) (hK : va_K D classes (ty ca) s) (hw : wd_I D classes A H0 f H locs) (ha : f a = some (.inr (3, [v0, v1, v2, v3, v4, v5, v6, v7]))) (hn : narrow (.int) v = v) (hfit : fits (.int) v = true) (hdg : decode cc pc = .ok (.putfield 18, 3)) (kk : ∀ (f1 : wd_M) (H1 : Heap) (locs1 : List Loc), f1 = wd_up f a (.inr (3, [v0, v1, v2, v3, v4, v, v6, v7])) → wd_I D classes A H0 f1 H1 locs1 → W p l e R s m args below meth c H1 locs1 cells slots Q (F0 m (pc + 3) ls rest)) : W p l e R s m args below meth c H locs cells slots Q (F0 m pc ls (v :: .ref a :: rest)) :=
  wd_put X hK hw (C := R_Picture) (T := F_Picture) (N := 8) i_Picture t_Picture t_Picture_ok n_Picture ha rfl 5 (by decide) fl_Picture_18 (fun _ h9 => h9) rfl (by decide +kernel) hn hfit (Nat.le_of_ble_eq_true rfl) hdg kk
theorem fp_Picture_21 {v v0 v1 v2 v3 v4 v5 v6 v7 : Value} (X : CallFix p m c cc nL s args tb R_Picture) (hK : va_K D classes (ty ca) s) (hw : wd_I D classes A H0 f H locs) (ha : f a = some (.inr (3, [v0, v1, v2, v3, v4, v5, v6, v7]))) (hn : narrow (.int) v = v) (hfit : fits (.int) v = true) (hdg : decode cc pc = .ok (.putfield 21, 3)) (kk : ∀ (f1 : wd_M) (H1 : Heap) (locs1 : List Loc), f1 = wd_up f a (.inr (3, [v0, v1, v2, v3, v4, v5, v, v7])) → wd_I D classes A H0 f1 H1 locs1 → W p l e R s m args below meth c H1 locs1 cells slots Q (F0 m (pc + 3) ls rest)) : W p l e R s m args below meth c H locs cells slots Q (F0 m pc ls (v :: .ref a :: rest)) :=
  wd_put X hK hw (C := R_Picture) (T := F_Picture) (N := 8) i_Picture t_Picture t_Picture_ok n_Picture ha rfl 6 (by decide) fl_Picture_21 (fun _ h9 => h9) rfl (by decide +kernel) hn hfit (Nat.le_of_ble_eq_true rfl) hdg kk
theorem fp_Picture_24 {v v0 v1 v2 v3 v4 v5 v6 v7 : Value} (X : CallFix p m c cc nL s args tb R_Picture) (hK : va_K D classes (ty ca) s) (hw : wd_I D classes A H0 f H locs) (ha : f a = some (.inr (3, [v0, v1, v2, v3, v4, v5, v6, v7]))) (hn : narrow (.object "ClerkRows$Turn") v = v) (hfit : fits (.object "ClerkRows$Turn") v = true) (hdg : decode cc pc = .ok (.putfield 24, 3)) (kk : ∀ (f1 : wd_M) (H1 : Heap) (locs1 : List Loc), f1 = wd_up f a (.inr (3, [v0, v1, v2, v3, v4, v5, v6, v])) → wd_I D classes A H0 f1 H1 locs1 → W p l e R s m args below meth c H1 locs1 cells slots Q (F0 m (pc + 3) ls rest)) : W p l e R s m args below meth c H locs cells slots Q (F0 m pc ls (v :: .ref a :: rest)) :=
  wd_put X hK hw (C := R_Picture) (T := F_Picture) (N := 8) i_Picture t_Picture t_Picture_ok n_Picture ha rfl 7 (by decide) fl_Picture_24 (fun _ h9 => h9) rfl (by decide +kernel) hn hfit (Nat.le_of_ble_eq_true rfl) hdg kk
theorem fp_Picture_28 {v v0 v1 v2 v3 v4 v5 v6 v7 : Value} (X : CallFix p m c cc nL s args tb R_Picture) (hK : va_K D classes (ty ca) s) (hw : wd_I D classes A H0 f H locs) (hin2 : meth.name = "<init>") (ha : f a = some (.inr (3, [v0, v1, v2, v3, v4, v5, v6, v7]))) (hn : narrow (.int) v = v) (hfit : fits (.int) v = true) (hdg : decode cc pc = .ok (.putfield 28, 3)) (kk : ∀ (f1 : wd_M) (H1 : Heap) (locs1 : List Loc), f1 = wd_up f a (.inr (3, [v, v1, v2, v3, v4, v5, v6, v7])) → wd_I D classes A H0 f1 H1 locs1 → W p l e R s m args below meth c H1 locs1 cells slots Q (F0 m (pc + 3) ls rest)) : W p l e R s m args below meth c H locs cells slots Q (F0 m pc ls (v :: .ref a :: rest)) :=
  wd_putF X hK hw hin2 (C := R_Picture) (T := F_Picture) (N := 8) i_Picture t_Picture t_Picture_ok n_Picture ha rfl 0 (by decide) fl_Picture_28 (fun _ h9 => h9) rfl rfl (by decide +kernel) hn hfit (Nat.le_of_ble_eq_true rfl) hdg kk
theorem fp_Picture_31 {v v0 v1 v2 v3 v4 v5 v6 v7 : Value} (X : CallFix p m c cc nL s args tb R_Picture) (hK : va_K D classes (ty ca) s) (hw : wd_I D classes A H0 f H locs) (hin2 : meth.name = "<init>") (ha : f a = some (.inr (3, [v0, v1, v2, v3, v4, v5, v6, v7]))) (hn : narrow (.long) v = v) (hfit : fits (.long) v = true) (hdg : decode cc pc = .ok (.putfield 31, 3)) (kk : ∀ (f1 : wd_M) (H1 : Heap) (locs1 : List Loc), f1 = wd_up f a (.inr (3, [v0, v, v2, v3, v4, v5, v6, v7])) → wd_I D classes A H0 f1 H1 locs1 → W p l e R s m args below meth c H1 locs1 cells slots Q (F0 m (pc + 3) ls rest)) : W p l e R s m args below meth c H locs cells slots Q (F0 m pc ls (v :: .ref a :: rest)) :=
  wd_putF X hK hw hin2 (C := R_Picture) (T := F_Picture) (N := 8) i_Picture t_Picture t_Picture_ok n_Picture ha rfl 1 (by decide) fl_Picture_31 (fun _ h9 => h9) rfl rfl (by decide +kernel) hn hfit (Nat.le_of_ble_eq_true rfl) hdg kk
theorem fp_Picture_35 {v v0 v1 v2 v3 v4 v5 v6 v7 : Value} (X : CallFix p m c cc nL s args tb R_Picture) (hK : va_K D classes (ty ca) s) (hw : wd_I D classes A H0 f H locs) (hin2 : meth.name = "<init>") (ha : f a = some (.inr (3, [v0, v1, v2, v3, v4, v5, v6, v7]))) (hn : narrow (.int) v = v) (hfit : fits (.int) v = true) (hdg : decode cc pc = .ok (.putfield 35, 3)) (kk : ∀ (f1 : wd_M) (H1 : Heap) (locs1 : List Loc), f1 = wd_up f a (.inr (3, [v0, v1, v, v3, v4, v5, v6, v7])) → wd_I D classes A H0 f1 H1 locs1 → W p l e R s m args below meth c H1 locs1 cells slots Q (F0 m (pc + 3) ls rest)) : W p l e R s m args below meth c H locs cells slots Q (F0 m pc ls (v :: .ref a :: rest)) :=
  wd_putF X hK hw hin2 (C := R_Picture) (T := F_Picture) (N := 8) i_Picture t_Picture t_Picture_ok n_Picture ha rfl 2 (by decide) fl_Picture_35 (fun _ h9 => h9) rfl rfl (by decide +kernel) hn hfit (Nat.le_of_ble_eq_true rfl) hdg kk
theorem fg_Picture_18 {v0 v1 v2 v3 v4 v5 v6 v7 : Value} (X : CallFix p m c cc nL s args tb R_Picture) (hK : va_K D classes (ty ca) s) (hw : wd_I D classes A H0 f H locs) (ha : f a = some (.inr (3, [v0, v1, v2, v3, v4, v5, v6, v7]))) (hdg : decode cc pc = .ok (.getfield 18, 3)) (kk : W p l e R s m args below meth c H locs cells slots Q (F0 m (pc + 3) ls (v5 :: rest))) : W p l e R s m args below meth c H locs cells slots Q (F0 m pc ls (.ref a :: rest)) :=
  wd_get X hK hw (C := R_Picture) (T := F_Picture) (N := 8) i_Picture ha rfl 5 (by decide) fl_Picture_18 (fun _ h9 => h9) rfl hdg kk
theorem fg_Picture_35 {v0 v1 v2 v3 v4 v5 v6 v7 : Value} (X : CallFix p m c cc nL s args tb R_Picture) (hK : va_K D classes (ty ca) s) (hw : wd_I D classes A H0 f H locs) (ha : f a = some (.inr (3, [v0, v1, v2, v3, v4, v5, v6, v7]))) (hdg : decode cc pc = .ok (.getfield 35, 3)) (kk : W p l e R s m args below meth c H locs cells slots Q (F0 m (pc + 3) ls (v2 :: rest))) : W p l e R s m args below meth c H locs cells slots Q (F0 m pc ls (.ref a :: rest)) :=
  wd_get X hK hw (C := R_Picture) (T := F_Picture) (N := 8) i_Picture ha rfl 2 (by decide) fl_Picture_35 (fun _ h9 => h9) rfl hdg kk
theorem fg_Picture_45 {v0 v1 v2 v3 v4 : Value} (X : CallFix p m c cc nL s args tb R_Picture) (hK : va_K D classes (ty ca) s) (hw : wd_I D classes A H0 f H locs) (ha : f a = some (.inr (1, [v0, v1, v2, v3, v4]))) (hdg : decode cc pc = .ok (.getfield 45, 3)) (kk : W p l e R s m args below meth c H locs cells slots Q (F0 m (pc + 3) ls (v3 :: rest))) : W p l e R s m args below meth c H locs cells slots Q (F0 m pc ls (.ref a :: rest)) :=
  wd_get X hK hw (C := R_Clerk) (T := F_Clerk) (N := 5) i_Clerk ha rfl 3 (by decide) fl_Picture_45 (fun _ h9 => h9) rfl hdg kk
theorem nw_Picture_52 (X : CallFix p m c cc nL s args tb R_Picture) (hK : va_K D classes (ty ca) s) (hw : wd_I D classes A H0 f H locs) (hcells : cells + 1 ≤ R.cells) (hslots : slots + 5 ≤ R.slots) (hdg : decode cc pc = .ok (.new 52, 3)) (kk : ∀ (q : Nat) (f1 : wd_M) (H1 : Heap), q = H.size → f q = none → f1 = wd_up f q (.inr (2, [.int 0, .int 0, .int 0, .null, .int 0])) → wd_I D classes A H0 f1 H1 locs → W p l e R s m args below meth c H1 locs (cells + 1) (slots + 5) Q (F0 m (pc + 3) ls (.ref q :: rest))) : W p l e R s m args below meth c H locs cells slots Q (F0 m pc ls rest) :=
  wd_new X hK hw (C := R_Turn) (T := F_Turn) (N := 5) i_Turn t_Turn t_Turn_ok cl_Picture_52 ib_Turn in_Turn rfl (fun j hj => by rcases (show j = 0 ∨ j = 1 ∨ j = 2 ∨ j = 3 ∨ j = 4 by omega) with rfl | rfl | rfl | rfl | rfl <;> rfl) hcells hslots hdg kk
theorem fg_Picture_28 {v0 v1 v2 v3 v4 v5 v6 v7 : Value} (X : CallFix p m c cc nL s args tb R_Picture) (hK : va_K D classes (ty ca) s) (hw : wd_I D classes A H0 f H locs) (ha : f a = some (.inr (3, [v0, v1, v2, v3, v4, v5, v6, v7]))) (hdg : decode cc pc = .ok (.getfield 28, 3)) (kk : W p l e R s m args below meth c H locs cells slots Q (F0 m (pc + 3) ls (v0 :: rest))) : W p l e R s m args below meth c H locs cells slots Q (F0 m pc ls (.ref a :: rest)) :=
  wd_get X hK hw (C := R_Picture) (T := F_Picture) (N := 8) i_Picture ha rfl 0 (by decide) fl_Picture_28 (fun _ h9 => h9) rfl hdg kk
theorem fg_Picture_24 {v0 v1 v2 v3 v4 v5 v6 v7 : Value} (X : CallFix p m c cc nL s args tb R_Picture) (hK : va_K D classes (ty ca) s) (hw : wd_I D classes A H0 f H locs) (ha : f a = some (.inr (3, [v0, v1, v2, v3, v4, v5, v6, v7]))) (hdg : decode cc pc = .ok (.getfield 24, 3)) (kk : W p l e R s m args below meth c H locs cells slots Q (F0 m (pc + 3) ls (v7 :: rest))) : W p l e R s m args below meth c H locs cells slots Q (F0 m pc ls (.ref a :: rest)) :=
  wd_get X hK hw (C := R_Picture) (T := F_Picture) (N := 8) i_Picture ha rfl 7 (by decide) fl_Picture_24 (fun _ h9 => h9) rfl hdg kk
theorem fp_Picture_61 {v v0 v1 v2 v3 v4 : Value} (X : CallFix p m c cc nL s args tb R_Picture) (hK : va_K D classes (ty ca) s) (hw : wd_I D classes A H0 f H locs) (ha : f a = some (.inr (2, [v0, v1, v2, v3, v4]))) (hn : narrow (.int) v = v) (hfit : fits (.int) v = true) (hdg : decode cc pc = .ok (.putfield 61, 3)) (kk : ∀ (f1 : wd_M) (H1 : Heap) (locs1 : List Loc), f1 = wd_up f a (.inr (2, [v0, v1, v2, v3, v])) → wd_I D classes A H0 f1 H1 locs1 → W p l e R s m args below meth c H1 locs1 cells slots Q (F0 m (pc + 3) ls rest)) : W p l e R s m args below meth c H locs cells slots Q (F0 m pc ls (v :: .ref a :: rest)) :=
  wd_put X hK hw (C := R_Turn) (T := F_Turn) (N := 5) i_Turn t_Turn t_Turn_ok n_Turn ha rfl 4 (by decide) fl_Picture_61 (fun _ h9 => h9) rfl (by decide +kernel) hn hfit (Nat.le_of_ble_eq_true rfl) hdg kk
theorem fg_Picture_15 {v0 v1 v2 v3 v4 v5 v6 v7 : Value} (X : CallFix p m c cc nL s args tb R_Picture) (hK : va_K D classes (ty ca) s) (hw : wd_I D classes A H0 f H locs) (ha : f a = some (.inr (3, [v0, v1, v2, v3, v4, v5, v6, v7]))) (hdg : decode cc pc = .ok (.getfield 15, 3)) (kk : W p l e R s m args below meth c H locs cells slots Q (F0 m (pc + 3) ls (v4 :: rest))) : W p l e R s m args below meth c H locs cells slots Q (F0 m pc ls (.ref a :: rest)) :=
  wd_get X hK hw (C := R_Picture) (T := F_Picture) (N := 8) i_Picture ha rfl 4 (by decide) fl_Picture_15 (fun _ h9 => h9) rfl hdg kk
theorem fg_Picture_68 {v0 v1 v2 v3 v4 : Value} (X : CallFix p m c cc nL s args tb R_Picture) (hK : va_K D classes (ty ca) s) (hw : wd_I D classes A H0 f H locs) (ha : f a = some (.inr (2, [v0, v1, v2, v3, v4]))) (hdg : decode cc pc = .ok (.getfield 68, 3)) (kk : W p l e R s m args below meth c H locs cells slots Q (F0 m (pc + 3) ls (v1 :: rest))) : W p l e R s m args below meth c H locs cells slots Q (F0 m pc ls (.ref a :: rest)) :=
  wd_get X hK hw (C := R_Turn) (T := F_Turn) (N := 5) i_Turn ha rfl 1 (by decide) fl_Picture_68 (fun _ h9 => h9) rfl hdg kk
theorem fg_Picture_61 {v0 v1 v2 v3 v4 : Value} (X : CallFix p m c cc nL s args tb R_Picture) (hK : va_K D classes (ty ca) s) (hw : wd_I D classes A H0 f H locs) (ha : f a = some (.inr (2, [v0, v1, v2, v3, v4]))) (hdg : decode cc pc = .ok (.getfield 61, 3)) (kk : W p l e R s m args below meth c H locs cells slots Q (F0 m (pc + 3) ls (v4 :: rest))) : W p l e R s m args below meth c H locs cells slots Q (F0 m pc ls (.ref a :: rest)) :=
  wd_get X hK hw (C := R_Turn) (T := F_Turn) (N := 5) i_Turn ha rfl 4 (by decide) fl_Picture_61 (fun _ h9 => h9) rfl hdg kk
theorem fg_Picture_71 {v0 v1 v2 v3 v4 : Value} (X : CallFix p m c cc nL s args tb R_Picture) (hK : va_K D classes (ty ca) s) (hw : wd_I D classes A H0 f H locs) (ha : f a = some (.inr (2, [v0, v1, v2, v3, v4]))) (hdg : decode cc pc = .ok (.getfield 71, 3)) (kk : W p l e R s m args below meth c H locs cells slots Q (F0 m (pc + 3) ls (v3 :: rest))) : W p l e R s m args below meth c H locs cells slots Q (F0 m pc ls (.ref a :: rest)) :=
  wd_get X hK hw (C := R_Turn) (T := F_Turn) (N := 5) i_Turn ha rfl 3 (by decide) fl_Picture_71 (fun _ h9 => h9) rfl hdg kk
theorem fg_Picture_9 {v0 v1 v2 v3 v4 v5 v6 v7 : Value} (X : CallFix p m c cc nL s args tb R_Picture) (hK : va_K D classes (ty ca) s) (hw : wd_I D classes A H0 f H locs) (ha : f a = some (.inr (3, [v0, v1, v2, v3, v4, v5, v6, v7]))) (hdg : decode cc pc = .ok (.getfield 9, 3)) (kk : W p l e R s m args below meth c H locs cells slots Q (F0 m (pc + 3) ls (v3 :: rest))) : W p l e R s m args below meth c H locs cells slots Q (F0 m pc ls (.ref a :: rest)) :=
  wd_get X hK hw (C := R_Picture) (T := F_Picture) (N := 8) i_Picture ha rfl 3 (by decide) fl_Picture_9 (fun _ h9 => h9) rfl hdg kk
theorem fg_Picture_74 {v0 v1 v2 v3 v4 : Value} (X : CallFix p m c cc nL s args tb R_Picture) (hK : va_K D classes (ty ca) s) (hw : wd_I D classes A H0 f H locs) (ha : f a = some (.inr (2, [v0, v1, v2, v3, v4]))) (hdg : decode cc pc = .ok (.getfield 74, 3)) (kk : W p l e R s m args below meth c H locs cells slots Q (F0 m (pc + 3) ls (v2 :: rest))) : W p l e R s m args below meth c H locs cells slots Q (F0 m pc ls (.ref a :: rest)) :=
  wd_get X hK hw (C := R_Turn) (T := F_Turn) (N := 5) i_Turn ha rfl 2 (by decide) fl_Picture_74 (fun _ h9 => h9) rfl hdg kk
theorem fg_Picture_77 {v0 v1 v2 v3 v4 : Value} (X : CallFix p m c cc nL s args tb R_Picture) (hK : va_K D classes (ty ca) s) (hw : wd_I D classes A H0 f H locs) (ha : f a = some (.inr (1, [v0, v1, v2, v3, v4]))) (hdg : decode cc pc = .ok (.getfield 77, 3)) (kk : W p l e R s m args below meth c H locs cells slots Q (F0 m (pc + 3) ls (v2 :: rest))) : W p l e R s m args below meth c H locs cells slots Q (F0 m pc ls (.ref a :: rest)) :=
  wd_get X hK hw (C := R_Clerk) (T := F_Clerk) (N := 5) i_Clerk ha rfl 2 (by decide) fl_Picture_77 (fun _ h9 => h9) rfl hdg kk
theorem fg_Picture_78 {v0 v1 v2 v3 v4 : Value} (X : CallFix p m c cc nL s args tb R_Picture) (hK : va_K D classes (ty ca) s) (hw : wd_I D classes A H0 f H locs) (ha : f a = some (.inr (1, [v0, v1, v2, v3, v4]))) (hdg : decode cc pc = .ok (.getfield 78, 3)) (kk : W p l e R s m args below meth c H locs cells slots Q (F0 m (pc + 3) ls (v0 :: rest))) : W p l e R s m args below meth c H locs cells slots Q (F0 m pc ls (.ref a :: rest)) :=
  wd_get X hK hw (C := R_Clerk) (T := F_Clerk) (N := 5) i_Clerk ha rfl 0 (by decide) fl_Picture_78 (fun _ h9 => h9) rfl hdg kk
theorem fp_Turn_9 {v v0 v1 v2 v3 v4 : Value} (X : CallFix p m c cc nL s args tb R_Turn) (hK : va_K D classes (ty ca) s) (hw : wd_I D classes A H0 f H locs) (ha : f a = some (.inr (2, [v0, v1, v2, v3, v4]))) (hn : narrow (.int) v = v) (hfit : fits (.int) v = true) (hdg : decode cc pc = .ok (.putfield 9, 3)) (kk : ∀ (f1 : wd_M) (H1 : Heap) (locs1 : List Loc), f1 = wd_up f a (.inr (2, [v0, v1, v2, v3, v])) → wd_I D classes A H0 f1 H1 locs1 → W p l e R s m args below meth c H1 locs1 cells slots Q (F0 m (pc + 3) ls rest)) : W p l e R s m args below meth c H locs cells slots Q (F0 m pc ls (v :: .ref a :: rest)) :=
  wd_put X hK hw (C := R_Turn) (T := F_Turn) (N := 5) i_Turn t_Turn t_Turn_ok n_Turn ha rfl 4 (by decide) fl_Turn_9 (fun _ h9 => h9) rfl (by decide +kernel) hn hfit (Nat.le_of_ble_eq_true rfl) hdg kk
theorem fp_Turn_15 {v v0 v1 v2 v3 v4 : Value} (X : CallFix p m c cc nL s args tb R_Turn) (hK : va_K D classes (ty ca) s) (hw : wd_I D classes A H0 f H locs) (hin2 : meth.name = "<init>") (ha : f a = some (.inr (2, [v0, v1, v2, v3, v4]))) (hn : narrow (.int) v = v) (hfit : fits (.int) v = true) (hdg : decode cc pc = .ok (.putfield 15, 3)) (kk : ∀ (f1 : wd_M) (H1 : Heap) (locs1 : List Loc), f1 = wd_up f a (.inr (2, [v, v1, v2, v3, v4])) → wd_I D classes A H0 f1 H1 locs1 → W p l e R s m args below meth c H1 locs1 cells slots Q (F0 m (pc + 3) ls rest)) : W p l e R s m args below meth c H locs cells slots Q (F0 m pc ls (v :: .ref a :: rest)) :=
  wd_putF X hK hw hin2 (C := R_Turn) (T := F_Turn) (N := 5) i_Turn t_Turn t_Turn_ok n_Turn ha rfl 0 (by decide) fl_Turn_15 (fun _ h9 => h9) rfl rfl (by decide +kernel) hn hfit (Nat.le_of_ble_eq_true rfl) hdg kk
theorem fg_Turn_18 {v0 v1 v2 v3 v4 : Value} (X : CallFix p m c cc nL s args tb R_Turn) (hK : va_K D classes (ty ca) s) (hw : wd_I D classes A H0 f H locs) (ha : f a = some (.inr (1, [v0, v1, v2, v3, v4]))) (hdg : decode cc pc = .ok (.getfield 18, 3)) (kk : W p l e R s m args below meth c H locs cells slots Q (F0 m (pc + 3) ls (v0 :: rest))) : W p l e R s m args below meth c H locs cells slots Q (F0 m pc ls (.ref a :: rest)) :=
  wd_get X hK hw (C := R_Clerk) (T := F_Clerk) (N := 5) i_Clerk ha rfl 0 (by decide) fl_Turn_18 (fun _ h9 => h9) rfl hdg kk
theorem fp_Turn_23 {v v0 v1 v2 v3 v4 : Value} (X : CallFix p m c cc nL s args tb R_Turn) (hK : va_K D classes (ty ca) s) (hw : wd_I D classes A H0 f H locs) (hin2 : meth.name = "<init>") (ha : f a = some (.inr (2, [v0, v1, v2, v3, v4]))) (hn : narrow (.int) v = v) (hfit : fits (.int) v = true) (hdg : decode cc pc = .ok (.putfield 23, 3)) (kk : ∀ (f1 : wd_M) (H1 : Heap) (locs1 : List Loc), f1 = wd_up f a (.inr (2, [v0, v, v2, v3, v4])) → wd_I D classes A H0 f1 H1 locs1 → W p l e R s m args below meth c H1 locs1 cells slots Q (F0 m (pc + 3) ls rest)) : W p l e R s m args below meth c H locs cells slots Q (F0 m pc ls (v :: .ref a :: rest)) :=
  wd_putF X hK hw hin2 (C := R_Turn) (T := F_Turn) (N := 5) i_Turn t_Turn t_Turn_ok n_Turn ha rfl 1 (by decide) fl_Turn_23 (fun _ h9 => h9) rfl rfl (by decide +kernel) hn hfit (Nat.le_of_ble_eq_true rfl) hdg kk
theorem fg_Turn_26 {v0 v1 v2 v3 v4 : Value} (X : CallFix p m c cc nL s args tb R_Turn) (hK : va_K D classes (ty ca) s) (hw : wd_I D classes A H0 f H locs) (ha : f a = some (.inr (1, [v0, v1, v2, v3, v4]))) (hdg : decode cc pc = .ok (.getfield 26, 3)) (kk : W p l e R s m args below meth c H locs cells slots Q (F0 m (pc + 3) ls (v2 :: rest))) : W p l e R s m args below meth c H locs cells slots Q (F0 m pc ls (.ref a :: rest)) :=
  wd_get X hK hw (C := R_Clerk) (T := F_Clerk) (N := 5) i_Clerk ha rfl 2 (by decide) fl_Turn_26 (fun _ h9 => h9) rfl hdg kk
theorem fp_Turn_29 {v v0 v1 v2 v3 v4 : Value} (X : CallFix p m c cc nL s args tb R_Turn) (hK : va_K D classes (ty ca) s) (hw : wd_I D classes A H0 f H locs) (hin2 : meth.name = "<init>") (ha : f a = some (.inr (2, [v0, v1, v2, v3, v4]))) (hn : narrow (.int) v = v) (hfit : fits (.int) v = true) (hdg : decode cc pc = .ok (.putfield 29, 3)) (kk : ∀ (f1 : wd_M) (H1 : Heap) (locs1 : List Loc), f1 = wd_up f a (.inr (2, [v0, v1, v, v3, v4])) → wd_I D classes A H0 f1 H1 locs1 → W p l e R s m args below meth c H1 locs1 cells slots Q (F0 m (pc + 3) ls rest)) : W p l e R s m args below meth c H locs cells slots Q (F0 m pc ls (v :: .ref a :: rest)) :=
  wd_putF X hK hw hin2 (C := R_Turn) (T := F_Turn) (N := 5) i_Turn t_Turn t_Turn_ok n_Turn ha rfl 2 (by decide) fl_Turn_29 (fun _ h9 => h9) rfl rfl (by decide +kernel) hn hfit (Nat.le_of_ble_eq_true rfl) hdg kk
theorem fp_Turn_30 {v v0 v1 v2 v3 v4 : Value} (X : CallFix p m c cc nL s args tb R_Turn) (hK : va_K D classes (ty ca) s) (hw : wd_I D classes A H0 f H locs) (hin2 : meth.name = "<init>") (ha : f a = some (.inr (2, [v0, v1, v2, v3, v4]))) (hn : narrow (.object "ClerkRows$Turn") v = v) (hfit : fits (.object "ClerkRows$Turn") v = true) (hdg : decode cc pc = .ok (.putfield 30, 3)) (kk : ∀ (f1 : wd_M) (H1 : Heap) (locs1 : List Loc), f1 = wd_up f a (.inr (2, [v0, v1, v2, v, v4])) → wd_I D classes A H0 f1 H1 locs1 → W p l e R s m args below meth c H1 locs1 cells slots Q (F0 m (pc + 3) ls rest)) : W p l e R s m args below meth c H locs cells slots Q (F0 m pc ls (v :: .ref a :: rest)) :=
  wd_putF X hK hw hin2 (C := R_Turn) (T := F_Turn) (N := 5) i_Turn t_Turn t_Turn_ok n_Turn ha rfl 3 (by decide) fl_Turn_30 (fun _ h9 => h9) rfl rfl (by decide +kernel) hn hfit (Nat.le_of_ble_eq_true rfl) hdg kk
end FLD
end
section
theorem d_ClerkRows_init_0 : decode b_ClerkRows_init 0 = .ok (.aload_n 0, 1) := by decide +kernel
theorem d_ClerkRows_init_1 : decode b_ClerkRows_init 1 = .ok (.invokespecial 1, 3) := by decide +kernel
theorem d_ClerkRows_init_4 : decode b_ClerkRows_init 4 = .ok (.aload_n 0, 1) := by decide +kernel
theorem d_ClerkRows_init_5 : decode b_ClerkRows_init 5 = .ok (.sipush 300, 3) := by decide +kernel
theorem d_ClerkRows_init_8 : decode b_ClerkRows_init 8 = .ok (.anewarray 9, 3) := by decide +kernel
theorem d_ClerkRows_init_11 : decode b_ClerkRows_init 11 = .ok (.putfield 11, 3) := by decide +kernel
theorem d_ClerkRows_init_14 : decode b_ClerkRows_init 14 = .ok (.aload_n 0, 1) := by decide +kernel
theorem d_ClerkRows_init_15 : decode b_ClerkRows_init 15 = .ok (.bipush 20, 2) := by decide +kernel
theorem d_ClerkRows_init_17 : decode b_ClerkRows_init 17 = .ok (.anewarray 15, 3) := by decide +kernel
theorem d_ClerkRows_init_20 : decode b_ClerkRows_init 20 = .ok (.putfield 17, 3) := by decide +kernel
theorem d_ClerkRows_init_23 : decode b_ClerkRows_init 23 = .ok (.aload_n 0, 1) := by decide +kernel
theorem d_ClerkRows_init_24 : decode b_ClerkRows_init 24 = .ok (.iconst 0, 1) := by decide +kernel
theorem d_ClerkRows_init_25 : decode b_ClerkRows_init 25 = .ok (.putfield 21, 3) := by decide +kernel
theorem d_ClerkRows_init_28 : decode b_ClerkRows_init 28 = .ok (.aload_n 0, 1) := by decide +kernel
theorem d_ClerkRows_init_29 : decode b_ClerkRows_init 29 = .ok (.lconst 0, 1) := by decide +kernel
theorem d_ClerkRows_init_30 : decode b_ClerkRows_init 30 = .ok (.putfield 25, 3) := by decide +kernel
theorem d_ClerkRows_init_33 : decode b_ClerkRows_init 33 = .ok (.aload_n 0, 1) := by decide +kernel
theorem d_ClerkRows_init_34 : decode b_ClerkRows_init 34 = .ok (.iconst 0, 1) := by decide +kernel
theorem d_ClerkRows_init_35 : decode b_ClerkRows_init 35 = .ok (.putfield 29, 3) := by decide +kernel
theorem d_ClerkRows_init_38 : decode b_ClerkRows_init 38 = .ok (.aload_n 0, 1) := by decide +kernel
theorem d_ClerkRows_init_39 : decode b_ClerkRows_init 39 = .ok (.iconst 1, 1) := by decide +kernel
theorem d_ClerkRows_init_40 : decode b_ClerkRows_init 40 = .ok (.bipush 100, 2) := by decide +kernel
theorem d_ClerkRows_init_42 : decode b_ClerkRows_init 42 = .ok (.iload_n 1, 1) := by decide +kernel
theorem d_ClerkRows_init_43 : decode b_ClerkRows_init 43 = .ok (.invokestatic 32, 3) := by decide +kernel
theorem d_ClerkRows_init_46 : decode b_ClerkRows_init 46 = .ok (.invokestatic 38, 3) := by decide +kernel
theorem d_ClerkRows_init_49 : decode b_ClerkRows_init 49 = .ok (.putfield 41, 3) := by decide +kernel
theorem d_ClerkRows_init_52 : decode b_ClerkRows_init 52 = .ok (.iconst 0, 1) := by decide +kernel
theorem d_ClerkRows_init_53 : decode b_ClerkRows_init 53 = .ok (.istore_n 2, 1) := by decide +kernel
theorem d_ClerkRows_init_54 : decode b_ClerkRows_init 54 = .ok (.iload_n 2, 1) := by decide +kernel
theorem d_ClerkRows_init_55 : decode b_ClerkRows_init 55 = .ok (.bipush 20, 2) := by decide +kernel
theorem d_ClerkRows_init_57 : decode b_ClerkRows_init 57 = .ok (.if_icmp .ge 23, 3) := by decide +kernel
theorem d_ClerkRows_init_60 : decode b_ClerkRows_init 60 = .ok (.aload_n 0, 1) := by decide +kernel
theorem d_ClerkRows_init_61 : decode b_ClerkRows_init 61 = .ok (.getfield 17, 3) := by decide +kernel
theorem d_ClerkRows_init_64 : decode b_ClerkRows_init 64 = .ok (.iload_n 2, 1) := by decide +kernel
theorem d_ClerkRows_init_65 : decode b_ClerkRows_init 65 = .ok (.new 15, 3) := by decide +kernel
theorem d_ClerkRows_init_68 : decode b_ClerkRows_init 68 = .ok (.dup, 1) := by decide +kernel
theorem d_ClerkRows_init_69 : decode b_ClerkRows_init 69 = .ok (.iload_n 2, 1) := by decide +kernel
theorem d_ClerkRows_init_70 : decode b_ClerkRows_init 70 = .ok (.invokespecial 44, 3) := by decide +kernel
theorem d_ClerkRows_init_73 : decode b_ClerkRows_init 73 = .ok (.aastore, 1) := by decide +kernel
theorem d_ClerkRows_init_74 : decode b_ClerkRows_init 74 = .ok (.iinc 2 1, 3) := by decide +kernel
theorem d_ClerkRows_init_77 : decode b_ClerkRows_init 77 = .ok (.goto (-23), 3) := by decide +kernel
theorem d_ClerkRows_init_80 : decode b_ClerkRows_init 80 = .ok (.return_, 1) := by decide +kernel
theorem d_ClerkRows_picture_0 : decode b_ClerkRows_picture 0 = .ok (.aload_n 0, 1) := by decide +kernel
theorem d_ClerkRows_picture_1 : decode b_ClerkRows_picture 1 = .ok (.lload_n 1, 1) := by decide +kernel
theorem d_ClerkRows_picture_2 : decode b_ClerkRows_picture 2 = .ok (.invokevirtual 47, 3) := by decide +kernel
theorem d_ClerkRows_picture_5 : decode b_ClerkRows_picture 5 = .ok (.ifCond .eq 11, 3) := by decide +kernel
theorem d_ClerkRows_picture_8 : decode b_ClerkRows_picture 8 = .ok (.iload_n 3, 1) := by decide +kernel
theorem d_ClerkRows_picture_9 : decode b_ClerkRows_picture 9 = .ok (.iconst 3, 1) := by decide +kernel
theorem d_ClerkRows_picture_10 : decode b_ClerkRows_picture 10 = .ok (.invokestatic 51, 3) := by decide +kernel
theorem d_ClerkRows_picture_13 : decode b_ClerkRows_picture 13 = .ok (.ifCond .ne 6, 3) := by decide +kernel
theorem d_ClerkRows_picture_16 : decode b_ClerkRows_picture 16 = .ok (.bipush (-102), 2) := by decide +kernel
theorem d_ClerkRows_picture_18 : decode b_ClerkRows_picture 18 = .ok (.ireturn, 1) := by decide +kernel
theorem d_ClerkRows_picture_19 : decode b_ClerkRows_picture 19 = .ok (.aload_n 0, 1) := by decide +kernel
theorem d_ClerkRows_picture_20 : decode b_ClerkRows_picture 20 = .ok (.getfield 21, 3) := by decide +kernel
theorem d_ClerkRows_picture_23 : decode b_ClerkRows_picture 23 = .ok (.sipush 300, 3) := by decide +kernel
theorem d_ClerkRows_picture_26 : decode b_ClerkRows_picture 26 = .ok (.if_icmp .lt 6, 3) := by decide +kernel
theorem d_ClerkRows_picture_29 : decode b_ClerkRows_picture 29 = .ok (.bipush (-104), 2) := by decide +kernel
theorem d_ClerkRows_picture_31 : decode b_ClerkRows_picture 31 = .ok (.ireturn, 1) := by decide +kernel
theorem d_ClerkRows_picture_32 : decode b_ClerkRows_picture 32 = .ok (.aload_n 0, 1) := by decide +kernel
theorem d_ClerkRows_picture_33 : decode b_ClerkRows_picture 33 = .ok (.invokevirtual 55, 3) := by decide +kernel
theorem d_ClerkRows_picture_36 : decode b_ClerkRows_picture 36 = .ok (.aload_n 0, 1) := by decide +kernel
theorem d_ClerkRows_picture_37 : decode b_ClerkRows_picture 37 = .ok (.getfield 41, 3) := by decide +kernel
theorem d_ClerkRows_picture_40 : decode b_ClerkRows_picture 40 = .ok (.if_icmp .lt 5, 3) := by decide +kernel
theorem d_ClerkRows_picture_43 : decode b_ClerkRows_picture 43 = .ok (.iconst 0, 1) := by decide +kernel
theorem d_ClerkRows_picture_44 : decode b_ClerkRows_picture 44 = .ok (.ireturn, 1) := by decide +kernel
theorem d_ClerkRows_picture_45 : decode b_ClerkRows_picture 45 = .ok (.aload_n 0, 1) := by decide +kernel
theorem d_ClerkRows_picture_46 : decode b_ClerkRows_picture 46 = .ok (.getfield 11, 3) := by decide +kernel
theorem d_ClerkRows_picture_49 : decode b_ClerkRows_picture 49 = .ok (.aload_n 0, 1) := by decide +kernel
theorem d_ClerkRows_picture_50 : decode b_ClerkRows_picture 50 = .ok (.getfield 21, 3) := by decide +kernel
theorem d_ClerkRows_picture_53 : decode b_ClerkRows_picture 53 = .ok (.new 9, 3) := by decide +kernel
theorem d_ClerkRows_picture_56 : decode b_ClerkRows_picture 56 = .ok (.dup, 1) := by decide +kernel
theorem d_ClerkRows_picture_57 : decode b_ClerkRows_picture 57 = .ok (.aload_n 0, 1) := by decide +kernel
theorem d_ClerkRows_picture_58 : decode b_ClerkRows_picture 58 = .ok (.getfield 21, 3) := by decide +kernel
theorem d_ClerkRows_picture_61 : decode b_ClerkRows_picture 61 = .ok (.iconst 1, 1) := by decide +kernel
theorem d_ClerkRows_picture_62 : decode b_ClerkRows_picture 62 = .ok (.iadd, 1) := by decide +kernel
theorem d_ClerkRows_picture_63 : decode b_ClerkRows_picture 63 = .ok (.lload_n 1, 1) := by decide +kernel
theorem d_ClerkRows_picture_64 : decode b_ClerkRows_picture 64 = .ok (.iload_n 3, 1) := by decide +kernel
theorem d_ClerkRows_picture_65 : decode b_ClerkRows_picture 65 = .ok (.invokespecial 59, 3) := by decide +kernel
theorem d_ClerkRows_picture_68 : decode b_ClerkRows_picture 68 = .ok (.aastore, 1) := by decide +kernel
theorem d_ClerkRows_picture_69 : decode b_ClerkRows_picture 69 = .ok (.aload_n 0, 1) := by decide +kernel
theorem d_ClerkRows_picture_70 : decode b_ClerkRows_picture 70 = .ok (.dup, 1) := by decide +kernel
theorem d_ClerkRows_picture_71 : decode b_ClerkRows_picture 71 = .ok (.getfield 21, 3) := by decide +kernel
theorem d_ClerkRows_picture_74 : decode b_ClerkRows_picture 74 = .ok (.iconst 1, 1) := by decide +kernel
theorem d_ClerkRows_picture_75 : decode b_ClerkRows_picture 75 = .ok (.iadd, 1) := by decide +kernel
theorem d_ClerkRows_picture_76 : decode b_ClerkRows_picture 76 = .ok (.putfield 21, 3) := by decide +kernel
theorem d_ClerkRows_picture_79 : decode b_ClerkRows_picture 79 = .ok (.aload_n 0, 1) := by decide +kernel
theorem d_ClerkRows_picture_80 : decode b_ClerkRows_picture 80 = .ok (.getfield 21, 3) := by decide +kernel
theorem d_ClerkRows_picture_83 : decode b_ClerkRows_picture 83 = .ok (.ireturn, 1) := by decide +kernel
theorem d_ClerkRows_give_0 : decode b_ClerkRows_give 0 = .ok (.aload_n 0, 1) := by decide +kernel
theorem d_ClerkRows_give_1 : decode b_ClerkRows_give 1 = .ok (.iload_n 1, 1) := by decide +kernel
theorem d_ClerkRows_give_2 : decode b_ClerkRows_give 2 = .ok (.invokevirtual 62, 3) := by decide +kernel
theorem d_ClerkRows_give_5 : decode b_ClerkRows_give 5 = .ok (.astore 4, 2) := by decide +kernel
theorem d_ClerkRows_give_7 : decode b_ClerkRows_give 7 = .ok (.aload 4, 2) := by decide +kernel
theorem d_ClerkRows_give_9 : decode b_ClerkRows_give 9 = .ok (.ifnonnull 6, 3) := by decide +kernel
theorem d_ClerkRows_give_12 : decode b_ClerkRows_give 12 = .ok (.bipush (-101), 2) := by decide +kernel
theorem d_ClerkRows_give_14 : decode b_ClerkRows_give 14 = .ok (.ireturn, 1) := by decide +kernel
theorem d_ClerkRows_give_15 : decode b_ClerkRows_give 15 = .ok (.aload_n 0, 1) := by decide +kernel
theorem d_ClerkRows_give_16 : decode b_ClerkRows_give 16 = .ok (.lload_n 2, 1) := by decide +kernel
theorem d_ClerkRows_give_17 : decode b_ClerkRows_give 17 = .ok (.invokevirtual 47, 3) := by decide +kernel
theorem d_ClerkRows_give_20 : decode b_ClerkRows_give 20 = .ok (.ifCond .ne 6, 3) := by decide +kernel
theorem d_ClerkRows_give_23 : decode b_ClerkRows_give 23 = .ok (.bipush (-102), 2) := by decide +kernel
theorem d_ClerkRows_give_25 : decode b_ClerkRows_give 25 = .ok (.ireturn, 1) := by decide +kernel
theorem d_ClerkRows_give_26 : decode b_ClerkRows_give 26 = .ok (.aload 4, 2) := by decide +kernel
theorem d_ClerkRows_give_28 : decode b_ClerkRows_give 28 = .ok (.getfield 66, 3) := by decide +kernel
theorem d_ClerkRows_give_31 : decode b_ClerkRows_give 31 = .ok (.ifCond .eq 11, 3) := by decide +kernel
theorem d_ClerkRows_give_34 : decode b_ClerkRows_give 34 = .ok (.aload 4, 2) := by decide +kernel
theorem d_ClerkRows_give_36 : decode b_ClerkRows_give 36 = .ok (.getfield 70, 3) := by decide +kernel
theorem d_ClerkRows_give_39 : decode b_ClerkRows_give 39 = .ok (.ifnull 6, 3) := by decide +kernel
theorem d_ClerkRows_give_42 : decode b_ClerkRows_give 42 = .ok (.bipush (-103), 2) := by decide +kernel
theorem d_ClerkRows_give_44 : decode b_ClerkRows_give 44 = .ok (.ireturn, 1) := by decide +kernel
theorem d_ClerkRows_give_45 : decode b_ClerkRows_give 45 = .ok (.aload_n 0, 1) := by decide +kernel
theorem d_ClerkRows_give_46 : decode b_ClerkRows_give 46 = .ok (.lload_n 2, 1) := by decide +kernel
theorem d_ClerkRows_give_47 : decode b_ClerkRows_give 47 = .ok (.invokevirtual 74, 3) := by decide +kernel
theorem d_ClerkRows_give_50 : decode b_ClerkRows_give 50 = .ok (.aload_n 0, 1) := by decide +kernel
theorem d_ClerkRows_give_51 : decode b_ClerkRows_give 51 = .ok (.aload 4, 2) := by decide +kernel
theorem d_ClerkRows_give_53 : decode b_ClerkRows_give 53 = .ok (.invokevirtual 78, 3) := by decide +kernel
theorem d_ClerkRows_give_56 : decode b_ClerkRows_give 56 = .ok (.astore 5, 2) := by decide +kernel
theorem d_ClerkRows_give_58 : decode b_ClerkRows_give 58 = .ok (.aload 5, 2) := by decide +kernel
theorem d_ClerkRows_give_60 : decode b_ClerkRows_give 60 = .ok (.ifnonnull 5, 3) := by decide +kernel
theorem d_ClerkRows_give_63 : decode b_ClerkRows_give 63 = .ok (.iconst 0, 1) := by decide +kernel
theorem d_ClerkRows_give_64 : decode b_ClerkRows_give 64 = .ok (.ireturn, 1) := by decide +kernel
theorem d_ClerkRows_give_65 : decode b_ClerkRows_give 65 = .ok (.aload 4, 2) := by decide +kernel
theorem d_ClerkRows_give_67 : decode b_ClerkRows_give 67 = .ok (.aload 5, 2) := by decide +kernel
theorem d_ClerkRows_give_69 : decode b_ClerkRows_give 69 = .ok (.aload 4, 2) := by decide +kernel
theorem d_ClerkRows_give_71 : decode b_ClerkRows_give 71 = .ok (.invokevirtual 82, 3) := by decide +kernel
theorem d_ClerkRows_give_74 : decode b_ClerkRows_give 74 = .ok (.putfield 70, 3) := by decide +kernel
theorem d_ClerkRows_give_77 : decode b_ClerkRows_give 77 = .ok (.aload 5, 2) := by decide +kernel
theorem d_ClerkRows_give_79 : decode b_ClerkRows_give 79 = .ok (.getfield 86, 3) := by decide +kernel
theorem d_ClerkRows_give_82 : decode b_ClerkRows_give 82 = .ok (.ireturn, 1) := by decide +kernel
theorem d_ClerkRows_answer_0 : decode b_ClerkRows_answer 0 = .ok (.aload_n 0, 1) := by decide +kernel
theorem d_ClerkRows_answer_1 : decode b_ClerkRows_answer 1 = .ok (.iload_n 1, 1) := by decide +kernel
theorem d_ClerkRows_answer_2 : decode b_ClerkRows_answer 2 = .ok (.invokevirtual 62, 3) := by decide +kernel
theorem d_ClerkRows_answer_5 : decode b_ClerkRows_answer 5 = .ok (.astore 6, 2) := by decide +kernel
theorem d_ClerkRows_answer_7 : decode b_ClerkRows_answer 7 = .ok (.aload_n 0, 1) := by decide +kernel
theorem d_ClerkRows_answer_8 : decode b_ClerkRows_answer 8 = .ok (.iload_n 2, 1) := by decide +kernel
theorem d_ClerkRows_answer_9 : decode b_ClerkRows_answer 9 = .ok (.invokevirtual 89, 3) := by decide +kernel
theorem d_ClerkRows_answer_12 : decode b_ClerkRows_answer 12 = .ok (.astore 7, 2) := by decide +kernel
theorem d_ClerkRows_answer_14 : decode b_ClerkRows_answer 14 = .ok (.aload 6, 2) := by decide +kernel
theorem d_ClerkRows_answer_16 : decode b_ClerkRows_answer 16 = .ok (.ifnull 8, 3) := by decide +kernel
theorem d_ClerkRows_answer_19 : decode b_ClerkRows_answer 19 = .ok (.aload 7, 2) := by decide +kernel
theorem d_ClerkRows_answer_21 : decode b_ClerkRows_answer 21 = .ok (.ifnonnull 6, 3) := by decide +kernel
theorem d_ClerkRows_answer_24 : decode b_ClerkRows_answer 24 = .ok (.bipush (-101), 2) := by decide +kernel
theorem d_ClerkRows_answer_26 : decode b_ClerkRows_answer 26 = .ok (.ireturn, 1) := by decide +kernel
theorem d_ClerkRows_answer_27 : decode b_ClerkRows_answer 27 = .ok (.iload_n 3, 1) := by decide +kernel
theorem d_ClerkRows_answer_28 : decode b_ClerkRows_answer 28 = .ok (.sipush 9999, 3) := by decide +kernel
theorem d_ClerkRows_answer_31 : decode b_ClerkRows_answer 31 = .ok (.invokestatic 51, 3) := by decide +kernel
theorem d_ClerkRows_answer_34 : decode b_ClerkRows_answer 34 = .ok (.ifCond .eq 12, 3) := by decide +kernel
theorem d_ClerkRows_answer_37 : decode b_ClerkRows_answer 37 = .ok (.aload_n 0, 1) := by decide +kernel
theorem d_ClerkRows_answer_38 : decode b_ClerkRows_answer 38 = .ok (.lload 4, 2) := by decide +kernel
theorem d_ClerkRows_answer_40 : decode b_ClerkRows_answer 40 = .ok (.invokevirtual 47, 3) := by decide +kernel
theorem d_ClerkRows_answer_43 : decode b_ClerkRows_answer 43 = .ok (.ifCond .ne 6, 3) := by decide +kernel
theorem d_ClerkRows_answer_46 : decode b_ClerkRows_answer 46 = .ok (.bipush (-102), 2) := by decide +kernel
theorem d_ClerkRows_answer_48 : decode b_ClerkRows_answer 48 = .ok (.ireturn, 1) := by decide +kernel
theorem d_ClerkRows_answer_49 : decode b_ClerkRows_answer 49 = .ok (.aload 6, 2) := by decide +kernel
theorem d_ClerkRows_answer_51 : decode b_ClerkRows_answer 51 = .ok (.getfield 70, 3) := by decide +kernel
theorem d_ClerkRows_answer_54 : decode b_ClerkRows_answer 54 = .ok (.astore 8, 2) := by decide +kernel
theorem d_ClerkRows_answer_56 : decode b_ClerkRows_answer 56 = .ok (.aload 8, 2) := by decide +kernel
theorem d_ClerkRows_answer_58 : decode b_ClerkRows_answer 58 = .ok (.ifnull 12, 3) := by decide +kernel
theorem d_ClerkRows_answer_61 : decode b_ClerkRows_answer 61 = .ok (.aload 8, 2) := by decide +kernel
theorem d_ClerkRows_answer_63 : decode b_ClerkRows_answer 63 = .ok (.getfield 93, 3) := by decide +kernel
theorem d_ClerkRows_answer_66 : decode b_ClerkRows_answer 66 = .ok (.iload_n 2, 1) := by decide +kernel
theorem d_ClerkRows_answer_67 : decode b_ClerkRows_answer 67 = .ok (.if_icmp .eq 6, 3) := by decide +kernel
theorem d_ClerkRows_answer_70 : decode b_ClerkRows_answer 70 = .ok (.bipush (-103), 2) := by decide +kernel
theorem d_ClerkRows_answer_72 : decode b_ClerkRows_answer 72 = .ok (.ireturn, 1) := by decide +kernel
theorem d_ClerkRows_answer_73 : decode b_ClerkRows_answer 73 = .ok (.aload_n 0, 1) := by decide +kernel
theorem d_ClerkRows_answer_74 : decode b_ClerkRows_answer 74 = .ok (.lload 4, 2) := by decide +kernel
theorem d_ClerkRows_answer_76 : decode b_ClerkRows_answer 76 = .ok (.invokevirtual 74, 3) := by decide +kernel
theorem d_ClerkRows_answer_79 : decode b_ClerkRows_answer 79 = .ok (.aload 6, 2) := by decide +kernel
theorem d_ClerkRows_answer_81 : decode b_ClerkRows_answer 81 = .ok (.aconst_null, 1) := by decide +kernel
theorem d_ClerkRows_answer_82 : decode b_ClerkRows_answer 82 = .ok (.putfield 70, 3) := by decide +kernel
theorem d_ClerkRows_answer_85 : decode b_ClerkRows_answer 85 = .ok (.aload 7, 2) := by decide +kernel
theorem d_ClerkRows_answer_87 : decode b_ClerkRows_answer 87 = .ok (.aload 8, 2) := by decide +kernel
theorem d_ClerkRows_answer_89 : decode b_ClerkRows_answer 89 = .ok (.iload_n 3, 1) := by decide +kernel
theorem d_ClerkRows_answer_90 : decode b_ClerkRows_answer 90 = .ok (.invokevirtual 98, 3) := by decide +kernel
theorem d_ClerkRows_answer_93 : decode b_ClerkRows_answer 93 = .ok (.aload 7, 2) := by decide +kernel
theorem d_ClerkRows_answer_95 : decode b_ClerkRows_answer 95 = .ok (.invokevirtual 102, 3) := by decide +kernel
theorem d_ClerkRows_answer_98 : decode b_ClerkRows_answer 98 = .ok (.ireturn, 1) := by decide +kernel
theorem d_ClerkRows_office_0 : decode b_ClerkRows_office 0 = .ok (.aload_n 0, 1) := by decide +kernel
theorem d_ClerkRows_office_1 : decode b_ClerkRows_office 1 = .ok (.iload_n 1, 1) := by decide +kernel
theorem d_ClerkRows_office_2 : decode b_ClerkRows_office 2 = .ok (.invokevirtual 62, 3) := by decide +kernel
theorem d_ClerkRows_office_5 : decode b_ClerkRows_office 5 = .ok (.astore 4, 2) := by decide +kernel
theorem d_ClerkRows_office_7 : decode b_ClerkRows_office 7 = .ok (.aload 4, 2) := by decide +kernel
theorem d_ClerkRows_office_9 : decode b_ClerkRows_office 9 = .ok (.ifnonnull 6, 3) := by decide +kernel
theorem d_ClerkRows_office_12 : decode b_ClerkRows_office 12 = .ok (.bipush (-101), 2) := by decide +kernel
theorem d_ClerkRows_office_14 : decode b_ClerkRows_office 14 = .ok (.ireturn, 1) := by decide +kernel
theorem d_ClerkRows_office_15 : decode b_ClerkRows_office 15 = .ok (.iload_n 2, 1) := by decide +kernel
theorem d_ClerkRows_office_16 : decode b_ClerkRows_office 16 = .ok (.iconst 4, 1) := by decide +kernel
theorem d_ClerkRows_office_17 : decode b_ClerkRows_office 17 = .ok (.invokestatic 51, 3) := by decide +kernel
theorem d_ClerkRows_office_20 : decode b_ClerkRows_office 20 = .ok (.ifCond .eq 11, 3) := by decide +kernel
theorem d_ClerkRows_office_23 : decode b_ClerkRows_office 23 = .ok (.iload_n 3, 1) := by decide +kernel
theorem d_ClerkRows_office_24 : decode b_ClerkRows_office 24 = .ok (.iconst 3, 1) := by decide +kernel
theorem d_ClerkRows_office_25 : decode b_ClerkRows_office 25 = .ok (.invokestatic 51, 3) := by decide +kernel
theorem d_ClerkRows_office_28 : decode b_ClerkRows_office 28 = .ok (.ifCond .ne 6, 3) := by decide +kernel
theorem d_ClerkRows_office_31 : decode b_ClerkRows_office 31 = .ok (.bipush (-102), 2) := by decide +kernel
theorem d_ClerkRows_office_33 : decode b_ClerkRows_office 33 = .ok (.ireturn, 1) := by decide +kernel
theorem d_ClerkRows_office_34 : decode b_ClerkRows_office 34 = .ok (.aload 4, 2) := by decide +kernel
theorem d_ClerkRows_office_36 : decode b_ClerkRows_office 36 = .ok (.getfield 66, 3) := by decide +kernel
theorem d_ClerkRows_office_39 : decode b_ClerkRows_office 39 = .ok (.ifCond .eq 23, 3) := by decide +kernel
theorem d_ClerkRows_office_42 : decode b_ClerkRows_office 42 = .ok (.aload 4, 2) := by decide +kernel
theorem d_ClerkRows_office_44 : decode b_ClerkRows_office 44 = .ok (.getfield 105, 3) := by decide +kernel
theorem d_ClerkRows_office_47 : decode b_ClerkRows_office 47 = .ok (.iload_n 2, 1) := by decide +kernel
theorem d_ClerkRows_office_48 : decode b_ClerkRows_office 48 = .ok (.if_icmp .ne 14, 3) := by decide +kernel
theorem d_ClerkRows_office_51 : decode b_ClerkRows_office 51 = .ok (.aload 4, 2) := by decide +kernel
theorem d_ClerkRows_office_53 : decode b_ClerkRows_office 53 = .ok (.getfield 108, 3) := by decide +kernel
theorem d_ClerkRows_office_56 : decode b_ClerkRows_office 56 = .ok (.iload_n 3, 1) := by decide +kernel
theorem d_ClerkRows_office_57 : decode b_ClerkRows_office 57 = .ok (.if_icmp .ne 5, 3) := by decide +kernel
theorem d_ClerkRows_office_60 : decode b_ClerkRows_office 60 = .ok (.iconst 0, 1) := by decide +kernel
theorem d_ClerkRows_office_61 : decode b_ClerkRows_office 61 = .ok (.ireturn, 1) := by decide +kernel
theorem d_ClerkRows_office_62 : decode b_ClerkRows_office 62 = .ok (.aload 4, 2) := by decide +kernel
theorem d_ClerkRows_office_64 : decode b_ClerkRows_office 64 = .ok (.iconst 1, 1) := by decide +kernel
theorem d_ClerkRows_office_65 : decode b_ClerkRows_office 65 = .ok (.putfield 66, 3) := by decide +kernel
theorem d_ClerkRows_office_68 : decode b_ClerkRows_office 68 = .ok (.aload 4, 2) := by decide +kernel
theorem d_ClerkRows_office_70 : decode b_ClerkRows_office 70 = .ok (.iload_n 2, 1) := by decide +kernel
theorem d_ClerkRows_office_71 : decode b_ClerkRows_office 71 = .ok (.putfield 105, 3) := by decide +kernel
theorem d_ClerkRows_office_74 : decode b_ClerkRows_office 74 = .ok (.aload 4, 2) := by decide +kernel
theorem d_ClerkRows_office_76 : decode b_ClerkRows_office 76 = .ok (.iload_n 3, 1) := by decide +kernel
theorem d_ClerkRows_office_77 : decode b_ClerkRows_office 77 = .ok (.putfield 108, 3) := by decide +kernel
theorem d_ClerkRows_office_80 : decode b_ClerkRows_office 80 = .ok (.iconst 1, 1) := by decide +kernel
theorem d_ClerkRows_office_81 : decode b_ClerkRows_office 81 = .ok (.ireturn, 1) := by decide +kernel
theorem d_ClerkRows_leave_0 : decode b_ClerkRows_leave 0 = .ok (.aload_n 0, 1) := by decide +kernel
theorem d_ClerkRows_leave_1 : decode b_ClerkRows_leave 1 = .ok (.iload_n 1, 1) := by decide +kernel
theorem d_ClerkRows_leave_2 : decode b_ClerkRows_leave 2 = .ok (.invokevirtual 62, 3) := by decide +kernel
theorem d_ClerkRows_leave_5 : decode b_ClerkRows_leave 5 = .ok (.astore_n 2, 1) := by decide +kernel
theorem d_ClerkRows_leave_6 : decode b_ClerkRows_leave 6 = .ok (.aload_n 2, 1) := by decide +kernel
theorem d_ClerkRows_leave_7 : decode b_ClerkRows_leave 7 = .ok (.ifnonnull 6, 3) := by decide +kernel
theorem d_ClerkRows_leave_10 : decode b_ClerkRows_leave 10 = .ok (.bipush (-101), 2) := by decide +kernel
theorem d_ClerkRows_leave_12 : decode b_ClerkRows_leave 12 = .ok (.ireturn, 1) := by decide +kernel
theorem d_ClerkRows_leave_13 : decode b_ClerkRows_leave 13 = .ok (.aload_n 2, 1) := by decide +kernel
theorem d_ClerkRows_leave_14 : decode b_ClerkRows_leave 14 = .ok (.getfield 66, 3) := by decide +kernel
theorem d_ClerkRows_leave_17 : decode b_ClerkRows_leave 17 = .ok (.ifCond .ne 6, 3) := by decide +kernel
theorem d_ClerkRows_leave_20 : decode b_ClerkRows_leave 20 = .ok (.bipush (-103), 2) := by decide +kernel
theorem d_ClerkRows_leave_22 : decode b_ClerkRows_leave 22 = .ok (.ireturn, 1) := by decide +kernel
theorem d_ClerkRows_leave_23 : decode b_ClerkRows_leave 23 = .ok (.aload_n 2, 1) := by decide +kernel
theorem d_ClerkRows_leave_24 : decode b_ClerkRows_leave 24 = .ok (.iconst 0, 1) := by decide +kernel
theorem d_ClerkRows_leave_25 : decode b_ClerkRows_leave 25 = .ok (.putfield 66, 3) := by decide +kernel
theorem d_ClerkRows_leave_28 : decode b_ClerkRows_leave 28 = .ok (.aload_n 2, 1) := by decide +kernel
theorem d_ClerkRows_leave_29 : decode b_ClerkRows_leave 29 = .ok (.getfield 70, 3) := by decide +kernel
theorem d_ClerkRows_leave_32 : decode b_ClerkRows_leave 32 = .ok (.astore_n 3, 1) := by decide +kernel
theorem d_ClerkRows_leave_33 : decode b_ClerkRows_leave 33 = .ok (.aload_n 3, 1) := by decide +kernel
theorem d_ClerkRows_leave_34 : decode b_ClerkRows_leave 34 = .ok (.ifnonnull 5, 3) := by decide +kernel
theorem d_ClerkRows_leave_37 : decode b_ClerkRows_leave 37 = .ok (.iconst 0, 1) := by decide +kernel
theorem d_ClerkRows_leave_38 : decode b_ClerkRows_leave 38 = .ok (.ireturn, 1) := by decide +kernel
theorem d_ClerkRows_leave_39 : decode b_ClerkRows_leave 39 = .ok (.aload_n 3, 1) := by decide +kernel
theorem d_ClerkRows_leave_40 : decode b_ClerkRows_leave 40 = .ok (.bipush (-2), 2) := by decide +kernel
theorem d_ClerkRows_leave_42 : decode b_ClerkRows_leave 42 = .ok (.putfield 111, 3) := by decide +kernel
theorem d_ClerkRows_leave_45 : decode b_ClerkRows_leave 45 = .ok (.aload_n 2, 1) := by decide +kernel
theorem d_ClerkRows_leave_46 : decode b_ClerkRows_leave 46 = .ok (.aconst_null, 1) := by decide +kernel
theorem d_ClerkRows_leave_47 : decode b_ClerkRows_leave 47 = .ok (.putfield 70, 3) := by decide +kernel
theorem d_ClerkRows_leave_50 : decode b_ClerkRows_leave 50 = .ok (.iconst 1, 1) := by decide +kernel
theorem d_ClerkRows_leave_51 : decode b_ClerkRows_leave 51 = .ok (.ireturn, 1) := by decide +kernel
theorem d_ClerkRows_tick_0 : decode b_ClerkRows_tick 0 = .ok (.aload_n 0, 1) := by decide +kernel
theorem d_ClerkRows_tick_1 : decode b_ClerkRows_tick 1 = .ok (.lload_n 1, 1) := by decide +kernel
theorem d_ClerkRows_tick_2 : decode b_ClerkRows_tick 2 = .ok (.invokevirtual 47, 3) := by decide +kernel
theorem d_ClerkRows_tick_5 : decode b_ClerkRows_tick 5 = .ok (.ifCond .ne 6, 3) := by decide +kernel
theorem d_ClerkRows_tick_8 : decode b_ClerkRows_tick 8 = .ok (.bipush (-102), 2) := by decide +kernel
theorem d_ClerkRows_tick_10 : decode b_ClerkRows_tick 10 = .ok (.ireturn, 1) := by decide +kernel
theorem d_ClerkRows_tick_11 : decode b_ClerkRows_tick 11 = .ok (.aload_n 0, 1) := by decide +kernel
theorem d_ClerkRows_tick_12 : decode b_ClerkRows_tick 12 = .ok (.lload_n 1, 1) := by decide +kernel
theorem d_ClerkRows_tick_13 : decode b_ClerkRows_tick 13 = .ok (.invokevirtual 74, 3) := by decide +kernel
theorem d_ClerkRows_tick_16 : decode b_ClerkRows_tick 16 = .ok (.aload_n 0, 1) := by decide +kernel
theorem d_ClerkRows_tick_17 : decode b_ClerkRows_tick 17 = .ok (.getfield 29, 3) := by decide +kernel
theorem d_ClerkRows_tick_20 : decode b_ClerkRows_tick 20 = .ok (.istore_n 3, 1) := by decide +kernel
theorem d_ClerkRows_tick_21 : decode b_ClerkRows_tick 21 = .ok (.aload_n 0, 1) := by decide +kernel
theorem d_ClerkRows_tick_22 : decode b_ClerkRows_tick 22 = .ok (.iconst 0, 1) := by decide +kernel
theorem d_ClerkRows_tick_23 : decode b_ClerkRows_tick 23 = .ok (.putfield 29, 3) := by decide +kernel
theorem d_ClerkRows_tick_26 : decode b_ClerkRows_tick 26 = .ok (.iload_n 3, 1) := by decide +kernel
theorem d_ClerkRows_tick_27 : decode b_ClerkRows_tick 27 = .ok (.ireturn, 1) := by decide +kernel
theorem d_ClerkRows_settled_0 : decode b_ClerkRows_settled 0 = .ok (.aload_n 0, 1) := by decide +kernel
theorem d_ClerkRows_settled_1 : decode b_ClerkRows_settled 1 = .ok (.iload_n 1, 1) := by decide +kernel
theorem d_ClerkRows_settled_2 : decode b_ClerkRows_settled 2 = .ok (.invokevirtual 89, 3) := by decide +kernel
theorem d_ClerkRows_settled_5 : decode b_ClerkRows_settled 5 = .ok (.astore_n 2, 1) := by decide +kernel
theorem d_ClerkRows_settled_6 : decode b_ClerkRows_settled 6 = .ok (.aload_n 2, 1) := by decide +kernel
theorem d_ClerkRows_settled_7 : decode b_ClerkRows_settled 7 = .ok (.ifnonnull 6, 3) := by decide +kernel
theorem d_ClerkRows_settled_10 : decode b_ClerkRows_settled 10 = .ok (.bipush (-101), 2) := by decide +kernel
theorem d_ClerkRows_settled_12 : decode b_ClerkRows_settled 12 = .ok (.ireturn, 1) := by decide +kernel
theorem d_ClerkRows_settled_13 : decode b_ClerkRows_settled 13 = .ok (.aload_n 2, 1) := by decide +kernel
theorem d_ClerkRows_settled_14 : decode b_ClerkRows_settled 14 = .ok (.invokevirtual 114, 3) := by decide +kernel
theorem d_ClerkRows_settled_17 : decode b_ClerkRows_settled 17 = .ok (.ifCond .ne 5, 3) := by decide +kernel
theorem d_ClerkRows_settled_20 : decode b_ClerkRows_settled 20 = .ok (.iconst (-1), 1) := by decide +kernel
theorem d_ClerkRows_settled_21 : decode b_ClerkRows_settled 21 = .ok (.ireturn, 1) := by decide +kernel
theorem d_ClerkRows_settled_22 : decode b_ClerkRows_settled 22 = .ok (.aload_n 2, 1) := by decide +kernel
theorem d_ClerkRows_settled_23 : decode b_ClerkRows_settled 23 = .ok (.getfield 118, 3) := by decide +kernel
theorem d_ClerkRows_settled_26 : decode b_ClerkRows_settled 26 = .ok (.ireturn, 1) := by decide +kernel
theorem d_ClerkRows_state_0 : decode b_ClerkRows_state 0 = .ok (.aload_n 0, 1) := by decide +kernel
theorem d_ClerkRows_state_1 : decode b_ClerkRows_state 1 = .ok (.iload_n 1, 1) := by decide +kernel
theorem d_ClerkRows_state_2 : decode b_ClerkRows_state 2 = .ok (.invokevirtual 89, 3) := by decide +kernel
theorem d_ClerkRows_state_5 : decode b_ClerkRows_state 5 = .ok (.astore_n 2, 1) := by decide +kernel
theorem d_ClerkRows_state_6 : decode b_ClerkRows_state 6 = .ok (.aload_n 2, 1) := by decide +kernel
theorem d_ClerkRows_state_7 : decode b_ClerkRows_state 7 = .ok (.ifnonnull 6, 3) := by decide +kernel
theorem d_ClerkRows_state_10 : decode b_ClerkRows_state 10 = .ok (.bipush (-101), 2) := by decide +kernel
theorem d_ClerkRows_state_12 : decode b_ClerkRows_state 12 = .ok (.ireturn, 1) := by decide +kernel
theorem d_ClerkRows_state_13 : decode b_ClerkRows_state 13 = .ok (.aload_n 2, 1) := by decide +kernel
theorem d_ClerkRows_state_14 : decode b_ClerkRows_state 14 = .ok (.invokevirtual 102, 3) := by decide +kernel
theorem d_ClerkRows_state_17 : decode b_ClerkRows_state 17 = .ok (.ireturn, 1) := by decide +kernel
theorem d_ClerkRows_agreement_0 : decode b_ClerkRows_agreement 0 = .ok (.aload_n 0, 1) := by decide +kernel
theorem d_ClerkRows_agreement_1 : decode b_ClerkRows_agreement 1 = .ok (.iload_n 1, 1) := by decide +kernel
theorem d_ClerkRows_agreement_2 : decode b_ClerkRows_agreement 2 = .ok (.invokevirtual 62, 3) := by decide +kernel
theorem d_ClerkRows_agreement_5 : decode b_ClerkRows_agreement 5 = .ok (.ifnull 11, 3) := by decide +kernel
theorem d_ClerkRows_agreement_8 : decode b_ClerkRows_agreement 8 = .ok (.aload_n 0, 1) := by decide +kernel
theorem d_ClerkRows_agreement_9 : decode b_ClerkRows_agreement 9 = .ok (.iload_n 2, 1) := by decide +kernel
theorem d_ClerkRows_agreement_10 : decode b_ClerkRows_agreement 10 = .ok (.invokevirtual 62, 3) := by decide +kernel
theorem d_ClerkRows_agreement_13 : decode b_ClerkRows_agreement 13 = .ok (.ifnonnull 7, 3) := by decide +kernel
theorem d_ClerkRows_agreement_16 : decode b_ClerkRows_agreement 16 = .ok (.ldc2_w 121, 3) := by decide +kernel
theorem d_ClerkRows_agreement_19 : decode b_ClerkRows_agreement 19 = .ok (.lreturn, 1) := by decide +kernel
theorem d_ClerkRows_agreement_20 : decode b_ClerkRows_agreement 20 = .ok (.iload_n 3, 1) := by decide +kernel
theorem d_ClerkRows_agreement_21 : decode b_ClerkRows_agreement 21 = .ok (.iconst 1, 1) := by decide +kernel
theorem d_ClerkRows_agreement_22 : decode b_ClerkRows_agreement 22 = .ok (.invokestatic 51, 3) := by decide +kernel
theorem d_ClerkRows_agreement_25 : decode b_ClerkRows_agreement 25 = .ok (.ifCond .eq 8, 3) := by decide +kernel
theorem d_ClerkRows_agreement_28 : decode b_ClerkRows_agreement 28 = .ok (.iload_n 1, 1) := by decide +kernel
theorem d_ClerkRows_agreement_29 : decode b_ClerkRows_agreement 29 = .ok (.iload_n 2, 1) := by decide +kernel
theorem d_ClerkRows_agreement_30 : decode b_ClerkRows_agreement 30 = .ok (.if_icmp .ne 7, 3) := by decide +kernel
theorem d_ClerkRows_agreement_33 : decode b_ClerkRows_agreement 33 = .ok (.ldc2_w 123, 3) := by decide +kernel
theorem d_ClerkRows_agreement_36 : decode b_ClerkRows_agreement 36 = .ok (.lreturn, 1) := by decide +kernel
theorem d_ClerkRows_agreement_37 : decode b_ClerkRows_agreement 37 = .ok (.lconst 0, 1) := by decide +kernel
theorem d_ClerkRows_agreement_38 : decode b_ClerkRows_agreement 38 = .ok (.lstore 4, 2) := by decide +kernel
theorem d_ClerkRows_agreement_40 : decode b_ClerkRows_agreement 40 = .ok (.lconst 0, 1) := by decide +kernel
theorem d_ClerkRows_agreement_41 : decode b_ClerkRows_agreement 41 = .ok (.lstore 6, 2) := by decide +kernel
theorem d_ClerkRows_agreement_43 : decode b_ClerkRows_agreement 43 = .ok (.aload_n 0, 1) := by decide +kernel
theorem d_ClerkRows_agreement_44 : decode b_ClerkRows_agreement 44 = .ok (.getfield 11, 3) := by decide +kernel
theorem d_ClerkRows_agreement_47 : decode b_ClerkRows_agreement 47 = .ok (.astore 8, 2) := by decide +kernel
theorem d_ClerkRows_agreement_49 : decode b_ClerkRows_agreement 49 = .ok (.aload 8, 2) := by decide +kernel
theorem d_ClerkRows_agreement_51 : decode b_ClerkRows_agreement 51 = .ok (.arraylength, 1) := by decide +kernel
theorem d_ClerkRows_agreement_52 : decode b_ClerkRows_agreement 52 = .ok (.istore 9, 2) := by decide +kernel
theorem d_ClerkRows_agreement_54 : decode b_ClerkRows_agreement 54 = .ok (.iconst 0, 1) := by decide +kernel
theorem d_ClerkRows_agreement_55 : decode b_ClerkRows_agreement 55 = .ok (.istore 10, 2) := by decide +kernel
theorem d_ClerkRows_agreement_57 : decode b_ClerkRows_agreement 57 = .ok (.iload 10, 2) := by decide +kernel
theorem d_ClerkRows_agreement_59 : decode b_ClerkRows_agreement 59 = .ok (.iload 9, 2) := by decide +kernel
theorem d_ClerkRows_agreement_61 : decode b_ClerkRows_agreement 61 = .ok (.if_icmp .ge 73, 3) := by decide +kernel
theorem d_ClerkRows_agreement_64 : decode b_ClerkRows_agreement 64 = .ok (.aload 8, 2) := by decide +kernel
theorem d_ClerkRows_agreement_66 : decode b_ClerkRows_agreement 66 = .ok (.iload 10, 2) := by decide +kernel
theorem d_ClerkRows_agreement_68 : decode b_ClerkRows_agreement 68 = .ok (.aaload, 1) := by decide +kernel
theorem d_ClerkRows_agreement_69 : decode b_ClerkRows_agreement 69 = .ok (.astore 11, 2) := by decide +kernel
theorem d_ClerkRows_agreement_71 : decode b_ClerkRows_agreement 71 = .ok (.aload 11, 2) := by decide +kernel
theorem d_ClerkRows_agreement_73 : decode b_ClerkRows_agreement 73 = .ok (.ifnonnull 6, 3) := by decide +kernel
theorem d_ClerkRows_agreement_76 : decode b_ClerkRows_agreement 76 = .ok (.goto 58, 3) := by decide +kernel
theorem d_ClerkRows_agreement_79 : decode b_ClerkRows_agreement 79 = .ok (.aload 11, 2) := by decide +kernel
theorem d_ClerkRows_agreement_81 : decode b_ClerkRows_agreement 81 = .ok (.iload_n 1, 1) := by decide +kernel
theorem d_ClerkRows_agreement_82 : decode b_ClerkRows_agreement 82 = .ok (.invokevirtual 125, 3) := by decide +kernel
theorem d_ClerkRows_agreement_85 : decode b_ClerkRows_agreement 85 = .ok (.istore 12, 2) := by decide +kernel
theorem d_ClerkRows_agreement_87 : decode b_ClerkRows_agreement 87 = .ok (.aload 11, 2) := by decide +kernel
theorem d_ClerkRows_agreement_89 : decode b_ClerkRows_agreement 89 = .ok (.iload_n 2, 1) := by decide +kernel
theorem d_ClerkRows_agreement_90 : decode b_ClerkRows_agreement 90 = .ok (.invokevirtual 125, 3) := by decide +kernel
theorem d_ClerkRows_agreement_93 : decode b_ClerkRows_agreement 93 = .ok (.istore 13, 2) := by decide +kernel
theorem d_ClerkRows_agreement_95 : decode b_ClerkRows_agreement 95 = .ok (.iload 12, 2) := by decide +kernel
theorem d_ClerkRows_agreement_97 : decode b_ClerkRows_agreement 97 = .ok (.ifCond .lt 31, 3) := by decide +kernel
theorem d_ClerkRows_agreement_100 : decode b_ClerkRows_agreement 100 = .ok (.iload 13, 2) := by decide +kernel
theorem d_ClerkRows_agreement_102 : decode b_ClerkRows_agreement 102 = .ok (.ifCond .lt 26, 3) := by decide +kernel
theorem d_ClerkRows_agreement_105 : decode b_ClerkRows_agreement 105 = .ok (.lload 4, 2) := by decide +kernel
theorem d_ClerkRows_agreement_107 : decode b_ClerkRows_agreement 107 = .ok (.lconst 1, 1) := by decide +kernel
theorem d_ClerkRows_agreement_108 : decode b_ClerkRows_agreement 108 = .ok (.ladd, 1) := by decide +kernel
theorem d_ClerkRows_agreement_109 : decode b_ClerkRows_agreement 109 = .ok (.lstore 4, 2) := by decide +kernel
theorem d_ClerkRows_agreement_111 : decode b_ClerkRows_agreement 111 = .ok (.lload 6, 2) := by decide +kernel
theorem d_ClerkRows_agreement_113 : decode b_ClerkRows_agreement 113 = .ok (.iload 12, 2) := by decide +kernel
theorem d_ClerkRows_agreement_115 : decode b_ClerkRows_agreement 115 = .ok (.iload 13, 2) := by decide +kernel
theorem d_ClerkRows_agreement_117 : decode b_ClerkRows_agreement 117 = .ok (.if_icmp .ne 7, 3) := by decide +kernel
theorem d_ClerkRows_agreement_120 : decode b_ClerkRows_agreement 120 = .ok (.lconst 1, 1) := by decide +kernel
theorem d_ClerkRows_agreement_121 : decode b_ClerkRows_agreement 121 = .ok (.goto 4, 3) := by decide +kernel
theorem d_ClerkRows_agreement_124 : decode b_ClerkRows_agreement 124 = .ok (.lconst 0, 1) := by decide +kernel
theorem d_ClerkRows_agreement_125 : decode b_ClerkRows_agreement 125 = .ok (.ladd, 1) := by decide +kernel
theorem d_ClerkRows_agreement_126 : decode b_ClerkRows_agreement 126 = .ok (.lstore 6, 2) := by decide +kernel
theorem d_ClerkRows_agreement_128 : decode b_ClerkRows_agreement 128 = .ok (.iinc 10 1, 3) := by decide +kernel
theorem d_ClerkRows_agreement_131 : decode b_ClerkRows_agreement 131 = .ok (.goto (-74), 3) := by decide +kernel
theorem d_ClerkRows_agreement_134 : decode b_ClerkRows_agreement 134 = .ok (.iload_n 3, 1) := by decide +kernel
theorem d_ClerkRows_agreement_135 : decode b_ClerkRows_agreement 135 = .ok (.iconst 1, 1) := by decide +kernel
theorem d_ClerkRows_agreement_136 : decode b_ClerkRows_agreement 136 = .ok (.if_icmp .ne 8, 3) := by decide +kernel
theorem d_ClerkRows_agreement_139 : decode b_ClerkRows_agreement 139 = .ok (.lload 4, 2) := by decide +kernel
theorem d_ClerkRows_agreement_141 : decode b_ClerkRows_agreement 141 = .ok (.goto 5, 3) := by decide +kernel
theorem d_ClerkRows_agreement_144 : decode b_ClerkRows_agreement 144 = .ok (.lload 6, 2) := by decide +kernel
theorem d_ClerkRows_agreement_146 : decode b_ClerkRows_agreement 146 = .ok (.lreturn, 1) := by decide +kernel
theorem d_ClerkRows_waiting_0 : decode b_ClerkRows_waiting 0 = .ok (.iconst 0, 1) := by decide +kernel
theorem d_ClerkRows_waiting_1 : decode b_ClerkRows_waiting 1 = .ok (.istore_n 1, 1) := by decide +kernel
theorem d_ClerkRows_waiting_2 : decode b_ClerkRows_waiting 2 = .ok (.aload_n 0, 1) := by decide +kernel
theorem d_ClerkRows_waiting_3 : decode b_ClerkRows_waiting 3 = .ok (.getfield 11, 3) := by decide +kernel
theorem d_ClerkRows_waiting_6 : decode b_ClerkRows_waiting 6 = .ok (.astore_n 2, 1) := by decide +kernel
theorem d_ClerkRows_waiting_7 : decode b_ClerkRows_waiting 7 = .ok (.aload_n 2, 1) := by decide +kernel
theorem d_ClerkRows_waiting_8 : decode b_ClerkRows_waiting 8 = .ok (.arraylength, 1) := by decide +kernel
theorem d_ClerkRows_waiting_9 : decode b_ClerkRows_waiting 9 = .ok (.istore_n 3, 1) := by decide +kernel
theorem d_ClerkRows_waiting_10 : decode b_ClerkRows_waiting 10 = .ok (.iconst 0, 1) := by decide +kernel
theorem d_ClerkRows_waiting_11 : decode b_ClerkRows_waiting 11 = .ok (.istore 4, 2) := by decide +kernel
theorem d_ClerkRows_waiting_13 : decode b_ClerkRows_waiting 13 = .ok (.iload 4, 2) := by decide +kernel
theorem d_ClerkRows_waiting_15 : decode b_ClerkRows_waiting 15 = .ok (.iload_n 3, 1) := by decide +kernel
theorem d_ClerkRows_waiting_16 : decode b_ClerkRows_waiting 16 = .ok (.if_icmp .ge 34, 3) := by decide +kernel
theorem d_ClerkRows_waiting_19 : decode b_ClerkRows_waiting 19 = .ok (.aload_n 2, 1) := by decide +kernel
theorem d_ClerkRows_waiting_20 : decode b_ClerkRows_waiting 20 = .ok (.iload 4, 2) := by decide +kernel
theorem d_ClerkRows_waiting_22 : decode b_ClerkRows_waiting 22 = .ok (.aaload, 1) := by decide +kernel
theorem d_ClerkRows_waiting_23 : decode b_ClerkRows_waiting 23 = .ok (.astore 5, 2) := by decide +kernel
theorem d_ClerkRows_waiting_25 : decode b_ClerkRows_waiting 25 = .ok (.aload 5, 2) := by decide +kernel
theorem d_ClerkRows_waiting_27 : decode b_ClerkRows_waiting 27 = .ok (.ifnonnull 6, 3) := by decide +kernel
theorem d_ClerkRows_waiting_30 : decode b_ClerkRows_waiting 30 = .ok (.goto 20, 3) := by decide +kernel
theorem d_ClerkRows_waiting_33 : decode b_ClerkRows_waiting 33 = .ok (.aload 5, 2) := by decide +kernel
theorem d_ClerkRows_waiting_35 : decode b_ClerkRows_waiting 35 = .ok (.invokevirtual 114, 3) := by decide +kernel
theorem d_ClerkRows_waiting_38 : decode b_ClerkRows_waiting 38 = .ok (.ifCond .ne 6, 3) := by decide +kernel
theorem d_ClerkRows_waiting_41 : decode b_ClerkRows_waiting 41 = .ok (.iinc 1 1, 3) := by decide +kernel
theorem d_ClerkRows_waiting_44 : decode b_ClerkRows_waiting 44 = .ok (.iinc 4 1, 3) := by decide +kernel
theorem d_ClerkRows_waiting_47 : decode b_ClerkRows_waiting 47 = .ok (.goto (-34), 3) := by decide +kernel
theorem d_ClerkRows_waiting_50 : decode b_ClerkRows_waiting 50 = .ok (.iload_n 1, 1) := by decide +kernel
theorem d_ClerkRows_waiting_51 : decode b_ClerkRows_waiting 51 = .ok (.ireturn, 1) := by decide +kernel
theorem d_ClerkRows_isWithin_0 : decode b_ClerkRows_isWithin 0 = .ok (.iload_n 0, 1) := by decide +kernel
theorem d_ClerkRows_isWithin_1 : decode b_ClerkRows_isWithin 1 = .ok (.ifCond .lt 12, 3) := by decide +kernel
theorem d_ClerkRows_isWithin_4 : decode b_ClerkRows_isWithin 4 = .ok (.iload_n 0, 1) := by decide +kernel
theorem d_ClerkRows_isWithin_5 : decode b_ClerkRows_isWithin 5 = .ok (.iload_n 1, 1) := by decide +kernel
theorem d_ClerkRows_isWithin_6 : decode b_ClerkRows_isWithin 6 = .ok (.if_icmp .gt 7, 3) := by decide +kernel
theorem d_ClerkRows_isWithin_9 : decode b_ClerkRows_isWithin 9 = .ok (.iconst 1, 1) := by decide +kernel
theorem d_ClerkRows_isWithin_10 : decode b_ClerkRows_isWithin 10 = .ok (.goto 4, 3) := by decide +kernel
theorem d_ClerkRows_isWithin_13 : decode b_ClerkRows_isWithin 13 = .ok (.iconst 0, 1) := by decide +kernel
theorem d_ClerkRows_isWithin_14 : decode b_ClerkRows_isWithin 14 = .ok (.ireturn, 1) := by decide +kernel
theorem d_ClerkRows_isTime_0 : decode b_ClerkRows_isTime 0 = .ok (.lload_n 1, 1) := by decide +kernel
theorem d_ClerkRows_isTime_1 : decode b_ClerkRows_isTime 1 = .ok (.aload_n 0, 1) := by decide +kernel
theorem d_ClerkRows_isTime_2 : decode b_ClerkRows_isTime 2 = .ok (.getfield 25, 3) := by decide +kernel
theorem d_ClerkRows_isTime_5 : decode b_ClerkRows_isTime 5 = .ok (.lcmp, 1) := by decide +kernel
theorem d_ClerkRows_isTime_6 : decode b_ClerkRows_isTime 6 = .ok (.ifCond .lt 15, 3) := by decide +kernel
theorem d_ClerkRows_isTime_9 : decode b_ClerkRows_isTime 9 = .ok (.lload_n 1, 1) := by decide +kernel
theorem d_ClerkRows_isTime_10 : decode b_ClerkRows_isTime 10 = .ok (.ldc2_w 129, 3) := by decide +kernel
theorem d_ClerkRows_isTime_13 : decode b_ClerkRows_isTime 13 = .ok (.lcmp, 1) := by decide +kernel
theorem d_ClerkRows_isTime_14 : decode b_ClerkRows_isTime 14 = .ok (.ifCond .gt 7, 3) := by decide +kernel
theorem d_ClerkRows_isTime_17 : decode b_ClerkRows_isTime 17 = .ok (.iconst 1, 1) := by decide +kernel
theorem d_ClerkRows_isTime_18 : decode b_ClerkRows_isTime 18 = .ok (.goto 4, 3) := by decide +kernel
theorem d_ClerkRows_isTime_21 : decode b_ClerkRows_isTime 21 = .ok (.iconst 0, 1) := by decide +kernel
theorem d_ClerkRows_isTime_22 : decode b_ClerkRows_isTime 22 = .ok (.ireturn, 1) := by decide +kernel
theorem d_ClerkRows_findClerk_0 : decode b_ClerkRows_findClerk 0 = .ok (.iload_n 1, 1) := by decide +kernel
theorem d_ClerkRows_findClerk_1 : decode b_ClerkRows_findClerk 1 = .ok (.ifCond .lt 18, 3) := by decide +kernel
theorem d_ClerkRows_findClerk_4 : decode b_ClerkRows_findClerk 4 = .ok (.iload_n 1, 1) := by decide +kernel
theorem d_ClerkRows_findClerk_5 : decode b_ClerkRows_findClerk 5 = .ok (.bipush 20, 2) := by decide +kernel
theorem d_ClerkRows_findClerk_7 : decode b_ClerkRows_findClerk 7 = .ok (.if_icmp .ge 12, 3) := by decide +kernel
theorem d_ClerkRows_findClerk_10 : decode b_ClerkRows_findClerk 10 = .ok (.aload_n 0, 1) := by decide +kernel
theorem d_ClerkRows_findClerk_11 : decode b_ClerkRows_findClerk 11 = .ok (.getfield 17, 3) := by decide +kernel
theorem d_ClerkRows_findClerk_14 : decode b_ClerkRows_findClerk 14 = .ok (.iload_n 1, 1) := by decide +kernel
theorem d_ClerkRows_findClerk_15 : decode b_ClerkRows_findClerk 15 = .ok (.aaload, 1) := by decide +kernel
theorem d_ClerkRows_findClerk_16 : decode b_ClerkRows_findClerk 16 = .ok (.goto 4, 3) := by decide +kernel
theorem d_ClerkRows_findClerk_19 : decode b_ClerkRows_findClerk 19 = .ok (.aconst_null, 1) := by decide +kernel
theorem d_ClerkRows_findClerk_20 : decode b_ClerkRows_findClerk 20 = .ok (.areturn, 1) := by decide +kernel
theorem d_ClerkRows_findPicture_0 : decode b_ClerkRows_findPicture 0 = .ok (.iload_n 1, 1) := by decide +kernel
theorem d_ClerkRows_findPicture_1 : decode b_ClerkRows_findPicture 1 = .ok (.iconst 1, 1) := by decide +kernel
theorem d_ClerkRows_findPicture_2 : decode b_ClerkRows_findPicture 2 = .ok (.if_icmp .lt 21, 3) := by decide +kernel
theorem d_ClerkRows_findPicture_5 : decode b_ClerkRows_findPicture 5 = .ok (.iload_n 1, 1) := by decide +kernel
theorem d_ClerkRows_findPicture_6 : decode b_ClerkRows_findPicture 6 = .ok (.sipush 300, 3) := by decide +kernel
theorem d_ClerkRows_findPicture_9 : decode b_ClerkRows_findPicture 9 = .ok (.if_icmp .gt 14, 3) := by decide +kernel
theorem d_ClerkRows_findPicture_12 : decode b_ClerkRows_findPicture 12 = .ok (.aload_n 0, 1) := by decide +kernel
theorem d_ClerkRows_findPicture_13 : decode b_ClerkRows_findPicture 13 = .ok (.getfield 11, 3) := by decide +kernel
theorem d_ClerkRows_findPicture_16 : decode b_ClerkRows_findPicture 16 = .ok (.iload_n 1, 1) := by decide +kernel
theorem d_ClerkRows_findPicture_17 : decode b_ClerkRows_findPicture 17 = .ok (.iconst 1, 1) := by decide +kernel
theorem d_ClerkRows_findPicture_18 : decode b_ClerkRows_findPicture 18 = .ok (.isub, 1) := by decide +kernel
theorem d_ClerkRows_findPicture_19 : decode b_ClerkRows_findPicture 19 = .ok (.aaload, 1) := by decide +kernel
theorem d_ClerkRows_findPicture_20 : decode b_ClerkRows_findPicture 20 = .ok (.goto 4, 3) := by decide +kernel
theorem d_ClerkRows_findPicture_23 : decode b_ClerkRows_findPicture 23 = .ok (.aconst_null, 1) := by decide +kernel
theorem d_ClerkRows_findPicture_24 : decode b_ClerkRows_findPicture 24 = .ok (.areturn, 1) := by decide +kernel
theorem d_ClerkRows_passTo_0 : decode b_ClerkRows_passTo 0 = .ok (.aload_n 0, 1) := by decide +kernel
theorem d_ClerkRows_passTo_1 : decode b_ClerkRows_passTo 1 = .ok (.lload_n 1, 1) := by decide +kernel
theorem d_ClerkRows_passTo_2 : decode b_ClerkRows_passTo 2 = .ok (.putfield 25, 3) := by decide +kernel
theorem d_ClerkRows_passTo_5 : decode b_ClerkRows_passTo 5 = .ok (.aload_n 0, 1) := by decide +kernel
theorem d_ClerkRows_passTo_6 : decode b_ClerkRows_passTo 6 = .ok (.getfield 11, 3) := by decide +kernel
theorem d_ClerkRows_passTo_9 : decode b_ClerkRows_passTo 9 = .ok (.astore_n 3, 1) := by decide +kernel
theorem d_ClerkRows_passTo_10 : decode b_ClerkRows_passTo 10 = .ok (.aload_n 3, 1) := by decide +kernel
theorem d_ClerkRows_passTo_11 : decode b_ClerkRows_passTo 11 = .ok (.arraylength, 1) := by decide +kernel
theorem d_ClerkRows_passTo_12 : decode b_ClerkRows_passTo 12 = .ok (.istore 4, 2) := by decide +kernel
theorem d_ClerkRows_passTo_14 : decode b_ClerkRows_passTo 14 = .ok (.iconst 0, 1) := by decide +kernel
theorem d_ClerkRows_passTo_15 : decode b_ClerkRows_passTo 15 = .ok (.istore 5, 2) := by decide +kernel
theorem d_ClerkRows_passTo_17 : decode b_ClerkRows_passTo 17 = .ok (.iload 5, 2) := by decide +kernel
theorem d_ClerkRows_passTo_19 : decode b_ClerkRows_passTo 19 = .ok (.iload 4, 2) := by decide +kernel
theorem d_ClerkRows_passTo_21 : decode b_ClerkRows_passTo 21 = .ok (.if_icmp .ge 57, 3) := by decide +kernel
theorem d_ClerkRows_passTo_24 : decode b_ClerkRows_passTo 24 = .ok (.aload_n 3, 1) := by decide +kernel
theorem d_ClerkRows_passTo_25 : decode b_ClerkRows_passTo 25 = .ok (.iload 5, 2) := by decide +kernel
theorem d_ClerkRows_passTo_27 : decode b_ClerkRows_passTo 27 = .ok (.aaload, 1) := by decide +kernel
theorem d_ClerkRows_passTo_28 : decode b_ClerkRows_passTo 28 = .ok (.astore 6, 2) := by decide +kernel
theorem d_ClerkRows_passTo_30 : decode b_ClerkRows_passTo 30 = .ok (.aload 6, 2) := by decide +kernel
theorem d_ClerkRows_passTo_32 : decode b_ClerkRows_passTo 32 = .ok (.ifnonnull 6, 3) := by decide +kernel
theorem d_ClerkRows_passTo_35 : decode b_ClerkRows_passTo 35 = .ok (.goto 43, 3) := by decide +kernel
theorem d_ClerkRows_passTo_38 : decode b_ClerkRows_passTo 38 = .ok (.aload 6, 2) := by decide +kernel
theorem d_ClerkRows_passTo_40 : decode b_ClerkRows_passTo 40 = .ok (.invokevirtual 114, 3) := by decide +kernel
theorem d_ClerkRows_passTo_43 : decode b_ClerkRows_passTo 43 = .ok (.ifCond .ne 29, 3) := by decide +kernel
theorem d_ClerkRows_passTo_46 : decode b_ClerkRows_passTo 46 = .ok (.aload 6, 2) := by decide +kernel
theorem d_ClerkRows_passTo_48 : decode b_ClerkRows_passTo 48 = .ok (.getfield 131, 3) := by decide +kernel
theorem d_ClerkRows_passTo_51 : decode b_ClerkRows_passTo 51 = .ok (.lload_n 1, 1) := by decide +kernel
theorem d_ClerkRows_passTo_52 : decode b_ClerkRows_passTo 52 = .ok (.lcmp, 1) := by decide +kernel
theorem d_ClerkRows_passTo_53 : decode b_ClerkRows_passTo 53 = .ok (.ifCond .ge 19, 3) := by decide +kernel
theorem d_ClerkRows_passTo_56 : decode b_ClerkRows_passTo 56 = .ok (.aload 6, 2) := by decide +kernel
theorem d_ClerkRows_passTo_58 : decode b_ClerkRows_passTo 58 = .ok (.iconst 4, 1) := by decide +kernel
theorem d_ClerkRows_passTo_59 : decode b_ClerkRows_passTo 59 = .ok (.putfield 134, 3) := by decide +kernel
theorem d_ClerkRows_passTo_62 : decode b_ClerkRows_passTo 62 = .ok (.aload_n 0, 1) := by decide +kernel
theorem d_ClerkRows_passTo_63 : decode b_ClerkRows_passTo 63 = .ok (.dup, 1) := by decide +kernel
theorem d_ClerkRows_passTo_64 : decode b_ClerkRows_passTo 64 = .ok (.getfield 29, 3) := by decide +kernel
theorem d_ClerkRows_passTo_67 : decode b_ClerkRows_passTo 67 = .ok (.iconst 1, 1) := by decide +kernel
theorem d_ClerkRows_passTo_68 : decode b_ClerkRows_passTo 68 = .ok (.iadd, 1) := by decide +kernel
theorem d_ClerkRows_passTo_69 : decode b_ClerkRows_passTo 69 = .ok (.putfield 29, 3) := by decide +kernel
theorem d_ClerkRows_passTo_72 : decode b_ClerkRows_passTo 72 = .ok (.iinc 5 1, 3) := by decide +kernel
theorem d_ClerkRows_passTo_75 : decode b_ClerkRows_passTo 75 = .ok (.goto (-58), 3) := by decide +kernel
theorem d_ClerkRows_passTo_78 : decode b_ClerkRows_passTo 78 = .ok (.return_, 1) := by decide +kernel
theorem d_ClerkRows_findGiven_0 : decode b_ClerkRows_findGiven 0 = .ok (.aconst_null, 1) := by decide +kernel
theorem d_ClerkRows_findGiven_1 : decode b_ClerkRows_findGiven 1 = .ok (.astore_n 2, 1) := by decide +kernel
theorem d_ClerkRows_findGiven_2 : decode b_ClerkRows_findGiven 2 = .ok (.aload_n 0, 1) := by decide +kernel
theorem d_ClerkRows_findGiven_3 : decode b_ClerkRows_findGiven 3 = .ok (.getfield 11, 3) := by decide +kernel
theorem d_ClerkRows_findGiven_6 : decode b_ClerkRows_findGiven 6 = .ok (.astore_n 3, 1) := by decide +kernel
theorem d_ClerkRows_findGiven_7 : decode b_ClerkRows_findGiven 7 = .ok (.aload_n 3, 1) := by decide +kernel
theorem d_ClerkRows_findGiven_8 : decode b_ClerkRows_findGiven 8 = .ok (.arraylength, 1) := by decide +kernel
theorem d_ClerkRows_findGiven_9 : decode b_ClerkRows_findGiven 9 = .ok (.istore 4, 2) := by decide +kernel
theorem d_ClerkRows_findGiven_11 : decode b_ClerkRows_findGiven 11 = .ok (.iconst 0, 1) := by decide +kernel
theorem d_ClerkRows_findGiven_12 : decode b_ClerkRows_findGiven 12 = .ok (.istore 5, 2) := by decide +kernel
theorem d_ClerkRows_findGiven_14 : decode b_ClerkRows_findGiven 14 = .ok (.iload 5, 2) := by decide +kernel
theorem d_ClerkRows_findGiven_16 : decode b_ClerkRows_findGiven 16 = .ok (.iload 4, 2) := by decide +kernel
theorem d_ClerkRows_findGiven_18 : decode b_ClerkRows_findGiven 18 = .ok (.if_icmp .ge 52, 3) := by decide +kernel
theorem d_ClerkRows_findGiven_21 : decode b_ClerkRows_findGiven 21 = .ok (.aload_n 3, 1) := by decide +kernel
theorem d_ClerkRows_findGiven_22 : decode b_ClerkRows_findGiven 22 = .ok (.iload 5, 2) := by decide +kernel
theorem d_ClerkRows_findGiven_24 : decode b_ClerkRows_findGiven 24 = .ok (.aaload, 1) := by decide +kernel
theorem d_ClerkRows_findGiven_25 : decode b_ClerkRows_findGiven 25 = .ok (.astore 6, 2) := by decide +kernel
theorem d_ClerkRows_findGiven_27 : decode b_ClerkRows_findGiven 27 = .ok (.aload 6, 2) := by decide +kernel
theorem d_ClerkRows_findGiven_29 : decode b_ClerkRows_findGiven 29 = .ok (.ifnonnull 6, 3) := by decide +kernel
theorem d_ClerkRows_findGiven_32 : decode b_ClerkRows_findGiven 32 = .ok (.goto 38, 3) := by decide +kernel
theorem d_ClerkRows_findGiven_35 : decode b_ClerkRows_findGiven 35 = .ok (.aload_n 2, 1) := by decide +kernel
theorem d_ClerkRows_findGiven_36 : decode b_ClerkRows_findGiven 36 = .ok (.ifnull 16, 3) := by decide +kernel
theorem d_ClerkRows_findGiven_39 : decode b_ClerkRows_findGiven 39 = .ok (.aload 6, 2) := by decide +kernel
theorem d_ClerkRows_findGiven_41 : decode b_ClerkRows_findGiven 41 = .ok (.getfield 131, 3) := by decide +kernel
theorem d_ClerkRows_findGiven_44 : decode b_ClerkRows_findGiven 44 = .ok (.aload_n 2, 1) := by decide +kernel
theorem d_ClerkRows_findGiven_45 : decode b_ClerkRows_findGiven 45 = .ok (.getfield 131, 3) := by decide +kernel
theorem d_ClerkRows_findGiven_48 : decode b_ClerkRows_findGiven 48 = .ok (.lcmp, 1) := by decide +kernel
theorem d_ClerkRows_findGiven_49 : decode b_ClerkRows_findGiven 49 = .ok (.ifCond .ge 15, 3) := by decide +kernel
theorem d_ClerkRows_findGiven_52 : decode b_ClerkRows_findGiven 52 = .ok (.aload 6, 2) := by decide +kernel
theorem d_ClerkRows_findGiven_54 : decode b_ClerkRows_findGiven 54 = .ok (.aload_n 1, 1) := by decide +kernel
theorem d_ClerkRows_findGiven_55 : decode b_ClerkRows_findGiven 55 = .ok (.invokevirtual 137, 3) := by decide +kernel
theorem d_ClerkRows_findGiven_58 : decode b_ClerkRows_findGiven 58 = .ok (.ifCond .eq 6, 3) := by decide +kernel
theorem d_ClerkRows_findGiven_61 : decode b_ClerkRows_findGiven 61 = .ok (.aload 6, 2) := by decide +kernel
theorem d_ClerkRows_findGiven_63 : decode b_ClerkRows_findGiven 63 = .ok (.astore_n 2, 1) := by decide +kernel
theorem d_ClerkRows_findGiven_64 : decode b_ClerkRows_findGiven 64 = .ok (.iinc 5 1, 3) := by decide +kernel
theorem d_ClerkRows_findGiven_67 : decode b_ClerkRows_findGiven 67 = .ok (.goto (-53), 3) := by decide +kernel
theorem d_ClerkRows_findGiven_70 : decode b_ClerkRows_findGiven 70 = .ok (.aload_n 2, 1) := by decide +kernel
theorem d_ClerkRows_findGiven_71 : decode b_ClerkRows_findGiven 71 = .ok (.areturn, 1) := by decide +kernel
theorem d_Clerk_init_0 : decode b_Clerk_init 0 = .ok (.aload_n 0, 1) := by decide +kernel
theorem d_Clerk_init_1 : decode b_Clerk_init 1 = .ok (.invokespecial 1, 3) := by decide +kernel
theorem d_Clerk_init_4 : decode b_Clerk_init 4 = .ok (.aload_n 0, 1) := by decide +kernel
theorem d_Clerk_init_5 : decode b_Clerk_init 5 = .ok (.iconst 0, 1) := by decide +kernel
theorem d_Clerk_init_6 : decode b_Clerk_init 6 = .ok (.putfield 7, 3) := by decide +kernel
theorem d_Clerk_init_9 : decode b_Clerk_init 9 = .ok (.aload_n 0, 1) := by decide +kernel
theorem d_Clerk_init_10 : decode b_Clerk_init 10 = .ok (.iconst 0, 1) := by decide +kernel
theorem d_Clerk_init_11 : decode b_Clerk_init 11 = .ok (.putfield 13, 3) := by decide +kernel
theorem d_Clerk_init_14 : decode b_Clerk_init 14 = .ok (.aload_n 0, 1) := by decide +kernel
theorem d_Clerk_init_15 : decode b_Clerk_init 15 = .ok (.iconst 0, 1) := by decide +kernel
theorem d_Clerk_init_16 : decode b_Clerk_init 16 = .ok (.putfield 17, 3) := by decide +kernel
theorem d_Clerk_init_19 : decode b_Clerk_init 19 = .ok (.aload_n 0, 1) := by decide +kernel
theorem d_Clerk_init_20 : decode b_Clerk_init 20 = .ok (.aconst_null, 1) := by decide +kernel
theorem d_Clerk_init_21 : decode b_Clerk_init 21 = .ok (.putfield 20, 3) := by decide +kernel
theorem d_Clerk_init_24 : decode b_Clerk_init 24 = .ok (.aload_n 0, 1) := by decide +kernel
theorem d_Clerk_init_25 : decode b_Clerk_init 25 = .ok (.iload_n 1, 1) := by decide +kernel
theorem d_Clerk_init_26 : decode b_Clerk_init 26 = .ok (.putfield 24, 3) := by decide +kernel
theorem d_Clerk_init_29 : decode b_Clerk_init 29 = .ok (.return_, 1) := by decide +kernel
theorem d_Turn_init_0 : decode b_Turn_init 0 = .ok (.aload_n 0, 1) := by decide +kernel
theorem d_Turn_init_1 : decode b_Turn_init 1 = .ok (.invokespecial 3, 3) := by decide +kernel
theorem d_Turn_init_4 : decode b_Turn_init 4 = .ok (.aload_n 0, 1) := by decide +kernel
theorem d_Turn_init_5 : decode b_Turn_init 5 = .ok (.iconst (-1), 1) := by decide +kernel
theorem d_Turn_init_6 : decode b_Turn_init 6 = .ok (.putfield 9, 3) := by decide +kernel
theorem d_Turn_init_9 : decode b_Turn_init 9 = .ok (.aload_n 0, 1) := by decide +kernel
theorem d_Turn_init_10 : decode b_Turn_init 10 = .ok (.iload_n 1, 1) := by decide +kernel
theorem d_Turn_init_11 : decode b_Turn_init 11 = .ok (.putfield 15, 3) := by decide +kernel
theorem d_Turn_init_14 : decode b_Turn_init 14 = .ok (.aload_n 0, 1) := by decide +kernel
theorem d_Turn_init_15 : decode b_Turn_init 15 = .ok (.aload_n 2, 1) := by decide +kernel
theorem d_Turn_init_16 : decode b_Turn_init 16 = .ok (.getfield 18, 3) := by decide +kernel
theorem d_Turn_init_19 : decode b_Turn_init 19 = .ok (.putfield 23, 3) := by decide +kernel
theorem d_Turn_init_22 : decode b_Turn_init 22 = .ok (.aload_n 0, 1) := by decide +kernel
theorem d_Turn_init_23 : decode b_Turn_init 23 = .ok (.aload_n 2, 1) := by decide +kernel
theorem d_Turn_init_24 : decode b_Turn_init 24 = .ok (.getfield 26, 3) := by decide +kernel
theorem d_Turn_init_27 : decode b_Turn_init 27 = .ok (.putfield 29, 3) := by decide +kernel
theorem d_Turn_init_30 : decode b_Turn_init 30 = .ok (.aload_n 0, 1) := by decide +kernel
theorem d_Turn_init_31 : decode b_Turn_init 31 = .ok (.aload_n 3, 1) := by decide +kernel
theorem d_Turn_init_32 : decode b_Turn_init 32 = .ok (.putfield 30, 3) := by decide +kernel
theorem d_Turn_init_35 : decode b_Turn_init 35 = .ok (.return_, 1) := by decide +kernel
theorem d_Picture_init_0 : decode b_Picture_init 0 = .ok (.aload_n 0, 1) := by decide +kernel
theorem d_Picture_init_1 : decode b_Picture_init 1 = .ok (.invokespecial 3, 3) := by decide +kernel
theorem d_Picture_init_4 : decode b_Picture_init 4 = .ok (.aload_n 0, 1) := by decide +kernel
theorem d_Picture_init_5 : decode b_Picture_init 5 = .ok (.iconst 2, 1) := by decide +kernel
theorem d_Picture_init_6 : decode b_Picture_init 6 = .ok (.putfield 9, 3) := by decide +kernel
theorem d_Picture_init_9 : decode b_Picture_init 9 = .ok (.aload_n 0, 1) := by decide +kernel
theorem d_Picture_init_10 : decode b_Picture_init 10 = .ok (.iconst 0, 1) := by decide +kernel
theorem d_Picture_init_11 : decode b_Picture_init 11 = .ok (.putfield 15, 3) := by decide +kernel
theorem d_Picture_init_14 : decode b_Picture_init 14 = .ok (.aload_n 0, 1) := by decide +kernel
theorem d_Picture_init_15 : decode b_Picture_init 15 = .ok (.iconst 0, 1) := by decide +kernel
theorem d_Picture_init_16 : decode b_Picture_init 16 = .ok (.putfield 18, 3) := by decide +kernel
theorem d_Picture_init_19 : decode b_Picture_init 19 = .ok (.aload_n 0, 1) := by decide +kernel
theorem d_Picture_init_20 : decode b_Picture_init 20 = .ok (.iconst 0, 1) := by decide +kernel
theorem d_Picture_init_21 : decode b_Picture_init 21 = .ok (.putfield 21, 3) := by decide +kernel
theorem d_Picture_init_24 : decode b_Picture_init 24 = .ok (.aload_n 0, 1) := by decide +kernel
theorem d_Picture_init_25 : decode b_Picture_init 25 = .ok (.aconst_null, 1) := by decide +kernel
theorem d_Picture_init_26 : decode b_Picture_init 26 = .ok (.putfield 24, 3) := by decide +kernel
theorem d_Picture_init_29 : decode b_Picture_init 29 = .ok (.aload_n 0, 1) := by decide +kernel
theorem d_Picture_init_30 : decode b_Picture_init 30 = .ok (.iload_n 1, 1) := by decide +kernel
theorem d_Picture_init_31 : decode b_Picture_init 31 = .ok (.putfield 28, 3) := by decide +kernel
theorem d_Picture_init_34 : decode b_Picture_init 34 = .ok (.aload_n 0, 1) := by decide +kernel
theorem d_Picture_init_35 : decode b_Picture_init 35 = .ok (.lload_n 2, 1) := by decide +kernel
theorem d_Picture_init_36 : decode b_Picture_init 36 = .ok (.putfield 31, 3) := by decide +kernel
theorem d_Picture_init_39 : decode b_Picture_init 39 = .ok (.aload_n 0, 1) := by decide +kernel
theorem d_Picture_init_40 : decode b_Picture_init 40 = .ok (.iload 4, 2) := by decide +kernel
theorem d_Picture_init_42 : decode b_Picture_init 42 = .ok (.putfield 35, 3) := by decide +kernel
theorem d_Picture_init_45 : decode b_Picture_init 45 = .ok (.return_, 1) := by decide +kernel
theorem d_Picture_hasEnded_0 : decode b_Picture_hasEnded 0 = .ok (.aload_n 0, 1) := by decide +kernel
theorem d_Picture_hasEnded_1 : decode b_Picture_hasEnded 1 = .ok (.getfield 18, 3) := by decide +kernel
theorem d_Picture_hasEnded_4 : decode b_Picture_hasEnded 4 = .ok (.ifCond .eq 7, 3) := by decide +kernel
theorem d_Picture_hasEnded_7 : decode b_Picture_hasEnded 7 = .ok (.iconst 1, 1) := by decide +kernel
theorem d_Picture_hasEnded_8 : decode b_Picture_hasEnded 8 = .ok (.goto 4, 3) := by decide +kernel
theorem d_Picture_hasEnded_11 : decode b_Picture_hasEnded 11 = .ok (.iconst 0, 1) := by decide +kernel
theorem d_Picture_hasEnded_12 : decode b_Picture_hasEnded 12 = .ok (.ireturn, 1) := by decide +kernel
theorem d_Picture_findState_0 : decode b_Picture_findState 0 = .ok (.aload_n 0, 1) := by decide +kernel
theorem d_Picture_findState_1 : decode b_Picture_findState 1 = .ok (.invokevirtual 38, 3) := by decide +kernel
theorem d_Picture_findState_4 : decode b_Picture_findState 4 = .ok (.ifCond .eq 8, 3) := by decide +kernel
theorem d_Picture_findState_7 : decode b_Picture_findState 7 = .ok (.aload_n 0, 1) := by decide +kernel
theorem d_Picture_findState_8 : decode b_Picture_findState 8 = .ok (.getfield 18, 3) := by decide +kernel
theorem d_Picture_findState_11 : decode b_Picture_findState 11 = .ok (.ireturn, 1) := by decide +kernel
theorem d_Picture_findState_12 : decode b_Picture_findState 12 = .ok (.aload_n 0, 1) := by decide +kernel
theorem d_Picture_findState_13 : decode b_Picture_findState 13 = .ok (.invokevirtual 42, 3) := by decide +kernel
theorem d_Picture_findState_16 : decode b_Picture_findState 16 = .ok (.ifCond .eq 7, 3) := by decide +kernel
theorem d_Picture_findState_19 : decode b_Picture_findState 19 = .ok (.iconst 0, 1) := by decide +kernel
theorem d_Picture_findState_20 : decode b_Picture_findState 20 = .ok (.goto 4, 3) := by decide +kernel
theorem d_Picture_findState_23 : decode b_Picture_findState 23 = .ok (.iconst 1, 1) := by decide +kernel
theorem d_Picture_findState_24 : decode b_Picture_findState 24 = .ok (.ireturn, 1) := by decide +kernel
theorem d_Picture_isFreeFor_0 : decode b_Picture_isFreeFor 0 = .ok (.aload_n 0, 1) := by decide +kernel
theorem d_Picture_isFreeFor_1 : decode b_Picture_isFreeFor 1 = .ok (.invokevirtual 38, 3) := by decide +kernel
theorem d_Picture_isFreeFor_4 : decode b_Picture_isFreeFor 4 = .ok (.ifCond .ne 33, 3) := by decide +kernel
theorem d_Picture_isFreeFor_7 : decode b_Picture_isFreeFor 7 = .ok (.aload_n 0, 1) := by decide +kernel
theorem d_Picture_isFreeFor_8 : decode b_Picture_isFreeFor 8 = .ok (.getfield 35, 3) := by decide +kernel
theorem d_Picture_isFreeFor_11 : decode b_Picture_isFreeFor 11 = .ok (.aload_n 1, 1) := by decide +kernel
theorem d_Picture_isFreeFor_12 : decode b_Picture_isFreeFor 12 = .ok (.getfield 45, 3) := by decide +kernel
theorem d_Picture_isFreeFor_15 : decode b_Picture_isFreeFor 15 = .ok (.if_icmp .gt 22, 3) := by decide +kernel
theorem d_Picture_isFreeFor_18 : decode b_Picture_isFreeFor 18 = .ok (.aload_n 0, 1) := by decide +kernel
theorem d_Picture_isFreeFor_19 : decode b_Picture_isFreeFor 19 = .ok (.invokevirtual 42, 3) := by decide +kernel
theorem d_Picture_isFreeFor_22 : decode b_Picture_isFreeFor 22 = .ok (.ifCond .eq 15, 3) := by decide +kernel
theorem d_Picture_isFreeFor_25 : decode b_Picture_isFreeFor 25 = .ok (.aload_n 0, 1) := by decide +kernel
theorem d_Picture_isFreeFor_26 : decode b_Picture_isFreeFor 26 = .ok (.aload_n 1, 1) := by decide +kernel
theorem d_Picture_isFreeFor_27 : decode b_Picture_isFreeFor 27 = .ok (.invokevirtual 48, 3) := by decide +kernel
theorem d_Picture_isFreeFor_30 : decode b_Picture_isFreeFor 30 = .ok (.ifCond .ne 7, 3) := by decide +kernel
theorem d_Picture_isFreeFor_33 : decode b_Picture_isFreeFor 33 = .ok (.iconst 1, 1) := by decide +kernel
theorem d_Picture_isFreeFor_34 : decode b_Picture_isFreeFor 34 = .ok (.goto 4, 3) := by decide +kernel
theorem d_Picture_isFreeFor_37 : decode b_Picture_isFreeFor 37 = .ok (.iconst 0, 1) := by decide +kernel
theorem d_Picture_isFreeFor_38 : decode b_Picture_isFreeFor 38 = .ok (.ireturn, 1) := by decide +kernel
theorem d_Picture_addTurn_0 : decode b_Picture_addTurn 0 = .ok (.aload_n 0, 1) := by decide +kernel
theorem d_Picture_addTurn_1 : decode b_Picture_addTurn 1 = .ok (.new 52, 3) := by decide +kernel
theorem d_Picture_addTurn_4 : decode b_Picture_addTurn 4 = .ok (.dup, 1) := by decide +kernel
theorem d_Picture_addTurn_5 : decode b_Picture_addTurn 5 = .ok (.aload_n 0, 1) := by decide +kernel
theorem d_Picture_addTurn_6 : decode b_Picture_addTurn 6 = .ok (.getfield 28, 3) := by decide +kernel
theorem d_Picture_addTurn_9 : decode b_Picture_addTurn 9 = .ok (.aload_n 1, 1) := by decide +kernel
theorem d_Picture_addTurn_10 : decode b_Picture_addTurn 10 = .ok (.aload_n 0, 1) := by decide +kernel
theorem d_Picture_addTurn_11 : decode b_Picture_addTurn 11 = .ok (.getfield 24, 3) := by decide +kernel
theorem d_Picture_addTurn_14 : decode b_Picture_addTurn 14 = .ok (.invokespecial 54, 3) := by decide +kernel
theorem d_Picture_addTurn_17 : decode b_Picture_addTurn 17 = .ok (.putfield 24, 3) := by decide +kernel
theorem d_Picture_addTurn_20 : decode b_Picture_addTurn 20 = .ok (.aload_n 0, 1) := by decide +kernel
theorem d_Picture_addTurn_21 : decode b_Picture_addTurn 21 = .ok (.getfield 24, 3) := by decide +kernel
theorem d_Picture_addTurn_24 : decode b_Picture_addTurn 24 = .ok (.areturn, 1) := by decide +kernel
theorem d_Picture_takeEntry_0 : decode b_Picture_takeEntry 0 = .ok (.aload_n 0, 1) := by decide +kernel
theorem d_Picture_takeEntry_1 : decode b_Picture_takeEntry 1 = .ok (.iload_n 2, 1) := by decide +kernel
theorem d_Picture_takeEntry_2 : decode b_Picture_takeEntry 2 = .ok (.invokevirtual 57, 3) := by decide +kernel
theorem d_Picture_takeEntry_5 : decode b_Picture_takeEntry 5 = .ok (.istore_n 3, 1) := by decide +kernel
theorem d_Picture_takeEntry_6 : decode b_Picture_takeEntry 6 = .ok (.aload_n 1, 1) := by decide +kernel
theorem d_Picture_takeEntry_7 : decode b_Picture_takeEntry 7 = .ok (.iload_n 2, 1) := by decide +kernel
theorem d_Picture_takeEntry_8 : decode b_Picture_takeEntry 8 = .ok (.putfield 61, 3) := by decide +kernel
theorem d_Picture_takeEntry_11 : decode b_Picture_takeEntry 11 = .ok (.aload_n 0, 1) := by decide +kernel
theorem d_Picture_takeEntry_12 : decode b_Picture_takeEntry 12 = .ok (.dup, 1) := by decide +kernel
theorem d_Picture_takeEntry_13 : decode b_Picture_takeEntry 13 = .ok (.getfield 15, 3) := by decide +kernel
theorem d_Picture_takeEntry_16 : decode b_Picture_takeEntry 16 = .ok (.iconst 1, 1) := by decide +kernel
theorem d_Picture_takeEntry_17 : decode b_Picture_takeEntry 17 = .ok (.iadd, 1) := by decide +kernel
theorem d_Picture_takeEntry_18 : decode b_Picture_takeEntry 18 = .ok (.putfield 15, 3) := by decide +kernel
theorem d_Picture_takeEntry_21 : decode b_Picture_takeEntry 21 = .ok (.aload_n 0, 1) := by decide +kernel
theorem d_Picture_takeEntry_22 : decode b_Picture_takeEntry 22 = .ok (.invokevirtual 38, 3) := by decide +kernel
theorem d_Picture_takeEntry_25 : decode b_Picture_takeEntry 25 = .ok (.ifCond .eq 4, 3) := by decide +kernel
theorem d_Picture_takeEntry_28 : decode b_Picture_takeEntry 28 = .ok (.return_, 1) := by decide +kernel
theorem d_Picture_takeEntry_29 : decode b_Picture_takeEntry 29 = .ok (.iload_n 3, 1) := by decide +kernel
theorem d_Picture_takeEntry_30 : decode b_Picture_takeEntry 30 = .ok (.ifCond .eq 11, 3) := by decide +kernel
theorem d_Picture_takeEntry_33 : decode b_Picture_takeEntry 33 = .ok (.aload_n 0, 1) := by decide +kernel
theorem d_Picture_takeEntry_34 : decode b_Picture_takeEntry 34 = .ok (.iload_n 2, 1) := by decide +kernel
theorem d_Picture_takeEntry_35 : decode b_Picture_takeEntry 35 = .ok (.invokevirtual 64, 3) := by decide +kernel
theorem d_Picture_takeEntry_38 : decode b_Picture_takeEntry 38 = .ok (.goto 32, 3) := by decide +kernel
theorem d_Picture_takeEntry_41 : decode b_Picture_takeEntry 41 = .ok (.aload_n 0, 1) := by decide +kernel
theorem d_Picture_takeEntry_42 : decode b_Picture_takeEntry 42 = .ok (.getfield 15, 3) := by decide +kernel
theorem d_Picture_takeEntry_45 : decode b_Picture_takeEntry 45 = .ok (.iconst 2, 1) := by decide +kernel
theorem d_Picture_takeEntry_46 : decode b_Picture_takeEntry 46 = .ok (.if_icmp .ne 11, 3) := by decide +kernel
theorem d_Picture_takeEntry_49 : decode b_Picture_takeEntry 49 = .ok (.aload_n 0, 1) := by decide +kernel
theorem d_Picture_takeEntry_50 : decode b_Picture_takeEntry 50 = .ok (.iconst 3, 1) := by decide +kernel
theorem d_Picture_takeEntry_51 : decode b_Picture_takeEntry 51 = .ok (.putfield 9, 3) := by decide +kernel
theorem d_Picture_takeEntry_54 : decode b_Picture_takeEntry 54 = .ok (.goto 16, 3) := by decide +kernel
theorem d_Picture_takeEntry_57 : decode b_Picture_takeEntry 57 = .ok (.aload_n 0, 1) := by decide +kernel
theorem d_Picture_takeEntry_58 : decode b_Picture_takeEntry 58 = .ok (.getfield 15, 3) := by decide +kernel
theorem d_Picture_takeEntry_61 : decode b_Picture_takeEntry 61 = .ok (.iconst 2, 1) := by decide +kernel
theorem d_Picture_takeEntry_62 : decode b_Picture_takeEntry 62 = .ok (.if_icmp .le 8, 3) := by decide +kernel
theorem d_Picture_takeEntry_65 : decode b_Picture_takeEntry 65 = .ok (.aload_n 0, 1) := by decide +kernel
theorem d_Picture_takeEntry_66 : decode b_Picture_takeEntry 66 = .ok (.iconst 3, 1) := by decide +kernel
theorem d_Picture_takeEntry_67 : decode b_Picture_takeEntry 67 = .ok (.putfield 18, 3) := by decide +kernel
theorem d_Picture_takeEntry_70 : decode b_Picture_takeEntry 70 = .ok (.return_, 1) := by decide +kernel
theorem d_Picture_findEntry_0 : decode b_Picture_findEntry 0 = .ok (.aload_n 0, 1) := by decide +kernel
theorem d_Picture_findEntry_1 : decode b_Picture_findEntry 1 = .ok (.getfield 24, 3) := by decide +kernel
theorem d_Picture_findEntry_4 : decode b_Picture_findEntry 4 = .ok (.astore_n 2, 1) := by decide +kernel
theorem d_Picture_findEntry_5 : decode b_Picture_findEntry 5 = .ok (.aload_n 2, 1) := by decide +kernel
theorem d_Picture_findEntry_6 : decode b_Picture_findEntry 6 = .ok (.ifnull 24, 3) := by decide +kernel
theorem d_Picture_findEntry_9 : decode b_Picture_findEntry 9 = .ok (.aload_n 2, 1) := by decide +kernel
theorem d_Picture_findEntry_10 : decode b_Picture_findEntry 10 = .ok (.getfield 68, 3) := by decide +kernel
theorem d_Picture_findEntry_13 : decode b_Picture_findEntry 13 = .ok (.iload_n 1, 1) := by decide +kernel
theorem d_Picture_findEntry_14 : decode b_Picture_findEntry 14 = .ok (.if_icmp .ne 8, 3) := by decide +kernel
theorem d_Picture_findEntry_17 : decode b_Picture_findEntry 17 = .ok (.aload_n 2, 1) := by decide +kernel
theorem d_Picture_findEntry_18 : decode b_Picture_findEntry 18 = .ok (.getfield 61, 3) := by decide +kernel
theorem d_Picture_findEntry_21 : decode b_Picture_findEntry 21 = .ok (.ireturn, 1) := by decide +kernel
theorem d_Picture_findEntry_22 : decode b_Picture_findEntry 22 = .ok (.aload_n 2, 1) := by decide +kernel
theorem d_Picture_findEntry_23 : decode b_Picture_findEntry 23 = .ok (.getfield 71, 3) := by decide +kernel
theorem d_Picture_findEntry_26 : decode b_Picture_findEntry 26 = .ok (.astore_n 2, 1) := by decide +kernel
theorem d_Picture_findEntry_27 : decode b_Picture_findEntry 27 = .ok (.goto (-22), 3) := by decide +kernel
theorem d_Picture_findEntry_30 : decode b_Picture_findEntry 30 = .ok (.iconst (-1), 1) := by decide +kernel
theorem d_Picture_findEntry_31 : decode b_Picture_findEntry 31 = .ok (.ireturn, 1) := by decide +kernel
theorem d_Picture_endAlike_0 : decode b_Picture_endAlike 0 = .ok (.iload_n 1, 1) := by decide +kernel
theorem d_Picture_endAlike_1 : decode b_Picture_endAlike 1 = .ok (.ifCond .ne 11, 3) := by decide +kernel
theorem d_Picture_endAlike_4 : decode b_Picture_endAlike 4 = .ok (.aload_n 0, 1) := by decide +kernel
theorem d_Picture_endAlike_5 : decode b_Picture_endAlike 5 = .ok (.iconst 3, 1) := by decide +kernel
theorem d_Picture_endAlike_6 : decode b_Picture_endAlike 6 = .ok (.putfield 18, 3) := by decide +kernel
theorem d_Picture_endAlike_9 : decode b_Picture_endAlike 9 = .ok (.goto 13, 3) := by decide +kernel
theorem d_Picture_endAlike_12 : decode b_Picture_endAlike 12 = .ok (.aload_n 0, 1) := by decide +kernel
theorem d_Picture_endAlike_13 : decode b_Picture_endAlike 13 = .ok (.iconst 2, 1) := by decide +kernel
theorem d_Picture_endAlike_14 : decode b_Picture_endAlike 14 = .ok (.putfield 18, 3) := by decide +kernel
theorem d_Picture_endAlike_17 : decode b_Picture_endAlike 17 = .ok (.aload_n 0, 1) := by decide +kernel
theorem d_Picture_endAlike_18 : decode b_Picture_endAlike 18 = .ok (.iload_n 1, 1) := by decide +kernel
theorem d_Picture_endAlike_19 : decode b_Picture_endAlike 19 = .ok (.putfield 21, 3) := by decide +kernel
theorem d_Picture_endAlike_22 : decode b_Picture_endAlike 22 = .ok (.return_, 1) := by decide +kernel
theorem d_Picture_hasEntry_0 : decode b_Picture_hasEntry 0 = .ok (.aload_n 0, 1) := by decide +kernel
theorem d_Picture_hasEntry_1 : decode b_Picture_hasEntry 1 = .ok (.getfield 24, 3) := by decide +kernel
theorem d_Picture_hasEntry_4 : decode b_Picture_hasEntry 4 = .ok (.astore_n 2, 1) := by decide +kernel
theorem d_Picture_hasEntry_5 : decode b_Picture_hasEntry 5 = .ok (.aload_n 2, 1) := by decide +kernel
theorem d_Picture_hasEntry_6 : decode b_Picture_hasEntry 6 = .ok (.ifnull 21, 3) := by decide +kernel
theorem d_Picture_hasEntry_9 : decode b_Picture_hasEntry 9 = .ok (.aload_n 2, 1) := by decide +kernel
theorem d_Picture_hasEntry_10 : decode b_Picture_hasEntry 10 = .ok (.getfield 61, 3) := by decide +kernel
theorem d_Picture_hasEntry_13 : decode b_Picture_hasEntry 13 = .ok (.iload_n 1, 1) := by decide +kernel
theorem d_Picture_hasEntry_14 : decode b_Picture_hasEntry 14 = .ok (.if_icmp .ne 5, 3) := by decide +kernel
theorem d_Picture_hasEntry_17 : decode b_Picture_hasEntry 17 = .ok (.iconst 1, 1) := by decide +kernel
theorem d_Picture_hasEntry_18 : decode b_Picture_hasEntry 18 = .ok (.ireturn, 1) := by decide +kernel
theorem d_Picture_hasEntry_19 : decode b_Picture_hasEntry 19 = .ok (.aload_n 2, 1) := by decide +kernel
theorem d_Picture_hasEntry_20 : decode b_Picture_hasEntry 20 = .ok (.getfield 71, 3) := by decide +kernel
theorem d_Picture_hasEntry_23 : decode b_Picture_hasEntry 23 = .ok (.astore_n 2, 1) := by decide +kernel
theorem d_Picture_hasEntry_24 : decode b_Picture_hasEntry 24 = .ok (.goto (-19), 3) := by decide +kernel
theorem d_Picture_hasEntry_27 : decode b_Picture_hasEntry 27 = .ok (.iconst 0, 1) := by decide +kernel
theorem d_Picture_hasEntry_28 : decode b_Picture_hasEntry 28 = .ok (.ireturn, 1) := by decide +kernel
theorem d_Picture_isWanting_0 : decode b_Picture_isWanting 0 = .ok (.iconst 0, 1) := by decide +kernel
theorem d_Picture_isWanting_1 : decode b_Picture_isWanting 1 = .ok (.istore_n 1, 1) := by decide +kernel
theorem d_Picture_isWanting_2 : decode b_Picture_isWanting 2 = .ok (.aload_n 0, 1) := by decide +kernel
theorem d_Picture_isWanting_3 : decode b_Picture_isWanting 3 = .ok (.getfield 24, 3) := by decide +kernel
theorem d_Picture_isWanting_6 : decode b_Picture_isWanting 6 = .ok (.astore_n 2, 1) := by decide +kernel
theorem d_Picture_isWanting_7 : decode b_Picture_isWanting 7 = .ok (.aload_n 2, 1) := by decide +kernel
theorem d_Picture_isWanting_8 : decode b_Picture_isWanting 8 = .ok (.ifnull 23, 3) := by decide +kernel
theorem d_Picture_isWanting_11 : decode b_Picture_isWanting 11 = .ok (.aload_n 2, 1) := by decide +kernel
theorem d_Picture_isWanting_12 : decode b_Picture_isWanting 12 = .ok (.getfield 61, 3) := by decide +kernel
theorem d_Picture_isWanting_15 : decode b_Picture_isWanting 15 = .ok (.bipush (-2), 2) := by decide +kernel
theorem d_Picture_isWanting_17 : decode b_Picture_isWanting 17 = .ok (.if_icmp .eq 6, 3) := by decide +kernel
theorem d_Picture_isWanting_20 : decode b_Picture_isWanting 20 = .ok (.iinc 1 1, 3) := by decide +kernel
theorem d_Picture_isWanting_23 : decode b_Picture_isWanting 23 = .ok (.aload_n 2, 1) := by decide +kernel
theorem d_Picture_isWanting_24 : decode b_Picture_isWanting 24 = .ok (.getfield 71, 3) := by decide +kernel
theorem d_Picture_isWanting_27 : decode b_Picture_isWanting 27 = .ok (.astore_n 2, 1) := by decide +kernel
theorem d_Picture_isWanting_28 : decode b_Picture_isWanting 28 = .ok (.goto (-21), 3) := by decide +kernel
theorem d_Picture_isWanting_31 : decode b_Picture_isWanting 31 = .ok (.iload_n 1, 1) := by decide +kernel
theorem d_Picture_isWanting_32 : decode b_Picture_isWanting 32 = .ok (.aload_n 0, 1) := by decide +kernel
theorem d_Picture_isWanting_33 : decode b_Picture_isWanting 33 = .ok (.getfield 9, 3) := by decide +kernel
theorem d_Picture_isWanting_36 : decode b_Picture_isWanting 36 = .ok (.if_icmp .ge 7, 3) := by decide +kernel
theorem d_Picture_isWanting_39 : decode b_Picture_isWanting 39 = .ok (.iconst 1, 1) := by decide +kernel
theorem d_Picture_isWanting_40 : decode b_Picture_isWanting 40 = .ok (.goto 4, 3) := by decide +kernel
theorem d_Picture_isWanting_43 : decode b_Picture_isWanting 43 = .ok (.iconst 0, 1) := by decide +kernel
theorem d_Picture_isWanting_44 : decode b_Picture_isWanting 44 = .ok (.ireturn, 1) := by decide +kernel
theorem d_Picture_isBarredBy_0 : decode b_Picture_isBarredBy 0 = .ok (.aload_n 0, 1) := by decide +kernel
theorem d_Picture_isBarredBy_1 : decode b_Picture_isBarredBy 1 = .ok (.getfield 24, 3) := by decide +kernel
theorem d_Picture_isBarredBy_4 : decode b_Picture_isBarredBy 4 = .ok (.astore_n 2, 1) := by decide +kernel
theorem d_Picture_isBarredBy_5 : decode b_Picture_isBarredBy 5 = .ok (.aload_n 2, 1) := by decide +kernel
theorem d_Picture_isBarredBy_6 : decode b_Picture_isBarredBy 6 = .ok (.ifnull 62, 3) := by decide +kernel
theorem d_Picture_isBarredBy_9 : decode b_Picture_isBarredBy 9 = .ok (.aload_n 2, 1) := by decide +kernel
theorem d_Picture_isBarredBy_10 : decode b_Picture_isBarredBy 10 = .ok (.getfield 74, 3) := by decide +kernel
theorem d_Picture_isBarredBy_13 : decode b_Picture_isBarredBy 13 = .ok (.aload_n 1, 1) := by decide +kernel
theorem d_Picture_isBarredBy_14 : decode b_Picture_isBarredBy 14 = .ok (.getfield 77, 3) := by decide +kernel
theorem d_Picture_isBarredBy_17 : decode b_Picture_isBarredBy 17 = .ok (.if_icmp .ne 16, 3) := by decide +kernel
theorem d_Picture_isBarredBy_20 : decode b_Picture_isBarredBy 20 = .ok (.aload_n 2, 1) := by decide +kernel
theorem d_Picture_isBarredBy_21 : decode b_Picture_isBarredBy 21 = .ok (.getfield 61, 3) := by decide +kernel
theorem d_Picture_isBarredBy_24 : decode b_Picture_isBarredBy 24 = .ok (.bipush (-2), 2) := by decide +kernel
theorem d_Picture_isBarredBy_26 : decode b_Picture_isBarredBy 26 = .ok (.if_icmp .eq 7, 3) := by decide +kernel
theorem d_Picture_isBarredBy_29 : decode b_Picture_isBarredBy 29 = .ok (.iconst 1, 1) := by decide +kernel
theorem d_Picture_isBarredBy_30 : decode b_Picture_isBarredBy 30 = .ok (.goto 4, 3) := by decide +kernel
theorem d_Picture_isBarredBy_33 : decode b_Picture_isBarredBy 33 = .ok (.iconst 0, 1) := by decide +kernel
theorem d_Picture_isBarredBy_34 : decode b_Picture_isBarredBy 34 = .ok (.istore_n 3, 1) := by decide +kernel
theorem d_Picture_isBarredBy_35 : decode b_Picture_isBarredBy 35 = .ok (.aload_n 2, 1) := by decide +kernel
theorem d_Picture_isBarredBy_36 : decode b_Picture_isBarredBy 36 = .ok (.getfield 68, 3) := by decide +kernel
theorem d_Picture_isBarredBy_39 : decode b_Picture_isBarredBy 39 = .ok (.aload_n 1, 1) := by decide +kernel
theorem d_Picture_isBarredBy_40 : decode b_Picture_isBarredBy 40 = .ok (.getfield 78, 3) := by decide +kernel
theorem d_Picture_isBarredBy_43 : decode b_Picture_isBarredBy 43 = .ok (.if_icmp .eq 15, 3) := by decide +kernel
theorem d_Picture_isBarredBy_46 : decode b_Picture_isBarredBy 46 = .ok (.iload_n 3, 1) := by decide +kernel
theorem d_Picture_isBarredBy_47 : decode b_Picture_isBarredBy 47 = .ok (.ifCond .eq 13, 3) := by decide +kernel
theorem d_Picture_isBarredBy_50 : decode b_Picture_isBarredBy 50 = .ok (.aload_n 0, 1) := by decide +kernel
theorem d_Picture_isBarredBy_51 : decode b_Picture_isBarredBy 51 = .ok (.getfield 9, 3) := by decide +kernel
theorem d_Picture_isBarredBy_54 : decode b_Picture_isBarredBy 54 = .ok (.iconst 2, 1) := by decide +kernel
theorem d_Picture_isBarredBy_55 : decode b_Picture_isBarredBy 55 = .ok (.if_icmp .ne 5, 3) := by decide +kernel
theorem d_Picture_isBarredBy_58 : decode b_Picture_isBarredBy 58 = .ok (.iconst 1, 1) := by decide +kernel
theorem d_Picture_isBarredBy_59 : decode b_Picture_isBarredBy 59 = .ok (.ireturn, 1) := by decide +kernel
theorem d_Picture_isBarredBy_60 : decode b_Picture_isBarredBy 60 = .ok (.aload_n 2, 1) := by decide +kernel
theorem d_Picture_isBarredBy_61 : decode b_Picture_isBarredBy 61 = .ok (.getfield 71, 3) := by decide +kernel
theorem d_Picture_isBarredBy_64 : decode b_Picture_isBarredBy 64 = .ok (.astore_n 2, 1) := by decide +kernel
theorem d_Picture_isBarredBy_65 : decode b_Picture_isBarredBy 65 = .ok (.goto (-60), 3) := by decide +kernel
theorem d_Picture_isBarredBy_68 : decode b_Picture_isBarredBy 68 = .ok (.iconst 0, 1) := by decide +kernel
theorem d_Picture_isBarredBy_69 : decode b_Picture_isBarredBy 69 = .ok (.ireturn, 1) := by decide +kernel
end
section
/-! the class's cells and what its methods answer -/
abbrev eR (mo : Int32) (pa ka : Nat) (md : Int32) (nw : Int64) (lt : Int32) : va_E := .inr (0, [.int mo, .ref pa, .ref ka, .int md, .long nw, .int lt])
abbrev eK (no i o sk : Int32) (t : Option Nat) : va_E := .inr (1, [.int no, .int i, .int o, .int sk, va_rf t])
abbrev eT (pn ck o : Int32) (ea : Option Nat) (en : Int32) : va_E := .inr (2, [.int pn, .int ck, .int o, va_rf ea, .int en])
abbrev eP (no : Int32) (du : Int64) (sk wa an en sw : Int32) (la : Option Nat) : va_E := .inr (3, [.int no, .long du, .int sk, .int wa, .int an, .int en, .int sw, va_rf la])
abbrev eA (cA : ClassId) (n : Nat) (g : Nat → Option Nat) : va_E := .inl (cA, n, .inr (.inr (.inr (.inr g))))
/-- a boolean answer -/
def zb (P : Prop) (r : Int32) : Prop := (P ∧ r = 1) ∨ (¬ P ∧ r = 0)
abbrev wi (x y : Int32) : Prop := ¬ x < 0 ∧ ¬ y < x
abbrev isT (nw t : Int64) : Prop := ¬ t < nw ∧ ¬ 1000000000 < t
abbrev okK (x : Int32) : Prop := ¬ x < 0 ∧ ¬ 20 ≤ x
abbrev okP (x : Int32) : Prop := ¬ x < 1 ∧ ¬ 300 < x
/-- a turn in a chain: its address, clerk, office, entry -/
abbrev TR : Type := Nat × Int32 × Int32 × Int32
def cx (f : wd_M) (no : Int32) : List TR → Option Nat → Prop
  | [], r => r = none
  | t :: L, r => r = some t.1 ∧ ∃ er : Option Nat, f t.1 = some (eT no t.2.1 t.2.2.1 er t.2.2.2) ∧ cx f no L er
def tk : List TR → Nat
  | [] => 0
  | t :: L => if t.2.2.2 = -2 then tk L else tk L + 1
def hasE (x : Int32) : List TR → Bool
  | [] => false
  | t :: L => decide (t.2.2.2 = x) || hasE x L
def fndE (ck : Int32) : List TR → Int32
  | [] => -1
  | t :: L => if t.2.1 = ck then t.2.2.2 else fndE ck L
def bar (no o wa : Int32) : List TR → Bool
  | [] => false
  | t :: L => (decide (t.2.1 = no) || ((decide (t.2.2.1 = o) && !decide (t.2.2.2 = -2)) && decide (wa = 2))) || bar no o wa L
def stt (en wa : Int32) (n : Nat) : Int32 := if en = 0 then (if nI n < wa then 0 else 1) else en
def fre (en sk wa : Int32) (L : List TR) (no o ks : Int32) : Bool := ((decide (en = 0) && !decide (ks < sk)) && decide (nI (tk L) < wa)) && !bar no o wa L
/-- what an answer x makes of wants, end, settledWith (an: the answers with it; al: there is one like it) -/
def tE (wa an en sw x : Int32) (al : Bool) : Int32 × Int32 × Int32 :=
  if ¬ en = 0 then (wa, en, sw) else if al = true then (wa, (if x = 0 then 3 else 2), (if x = 0 then sw else x)) else if an = 2 then (3, en, sw) else if an ≤ 2 then (wa, en, sw) else (wa, 3, sw)
/-- a picture: its address, due time, skill, wants, answers, end, settledWith, turns -/
abbrev PT : Type := Nat × Int64 × Int32 × Int32 × Int32 × Int32 × Int32 × List TR
def pAd (x : PT) : Nat := x.1
def pDu (x : PT) : Int64 := x.2.1
def pSk (x : PT) : Int32 := x.2.2.1
def pWa (x : PT) : Int32 := x.2.2.2.1
def pAn (x : PT) : Int32 := x.2.2.2.2.1
def pEn (x : PT) : Int32 := x.2.2.2.2.2.1
def pSw (x : PT) : Int32 := x.2.2.2.2.2.2.1
def pL (x : PT) : List TR := x.2.2.2.2.2.2.2
abbrev eQ (no : Int32) (x : PT) (la : Option Nat) : va_E := eP no (pDu x) (pSk x) (pWa x) (pAn x) (pEn x) (pSw x) la
/-- the pictures in their array -/
def rp (f : wd_M) (g : Nat → Option Nat) (n : Nat) (P : Nat → PT) : Prop := n ≤ 300 ∧ (∀ i : Nat, i < n → g i = some (pAd (P i)) ∧ ∃ la : Option Nat, f (pAd (P i)) = some (eQ (nI (i + 1)) (P i) la) ∧ cx f (nI (i + 1)) (pL (P i)) la) ∧ ∀ i : Nat, n ≤ i → g i = none
def cW (P : Nat → PT) : Nat → Nat
  | 0 => 0
  | n + 1 => if pEn (P n) = 0 then cW P n + 1 else cW P n
def frP (x : PT) (no o ks : Int32) : Bool := fre (pEn x) (pSk x) (pWa x) (pL x) no o ks
def gvn (P : Nat → PT) (no o ks : Int32) : Nat → Option Nat
  | 0 => none
  | n + 1 => match gvn P no o ks n with
    | none => if frP (P n) no o ks = true then some n else none
    | some b => if pDu (P n) < pDu (P b) ∧ frP (P n) no o ks = true then some n else some b
def agB (P : Nat → PT) (x y : Int32) : Nat → Nat
  | 0 => 0
  | n + 1 => if ¬ fndE x (pL (P n)) < 0 ∧ ¬ fndE y (pL (P n)) < 0 then agB P x y n + 1 else agB P x y n
def agA (P : Nat → PT) (x y : Int32) : Nat → Nat
  | 0 => 0
  | n + 1 => if (¬ fndE x (pL (P n)) < 0 ∧ ¬ fndE y (pL (P n)) < 0) ∧ fndE x (pL (P n)) = fndE y (pL (P n)) then agA P x y n + 1 else agA P x y n
/-- small rows -/
theorem ok20 {x : Int32} (h1 : ¬ x < 0) (h2 : ¬ 20 ≤ x) : ∃ j : Nat, j < 20 ∧ x = nI j := by
  rcases pk_ix x (n := 20) (by decide) with h | h | h
  · exact absurd h h1
  · exact absurd h h2
  · exact h
theorem ok300 {x : Int32} (h1 : ¬ x < 1) (h2 : ¬ 300 < x) : ∃ j : Nat, j < 300 ∧ x = nI (j + 1) := by
  have f0 : (0 : Int32).toInt = 0 := by decide
  have f1 : (1 : Int32).toInt = 1 := by decide
  have g0 : ¬ x < 0 := fun h => h1 (by rw [Int32.lt_iff_toInt_lt] at h ⊢; omega)
  obtain ⟨j, hj, rfl⟩ := nI_of g0
  rw [Int32.lt_iff_toInt_lt, nI_toInt hj] at h1 h2
  have e1 : (1 : Int32).toInt = 1 := by decide
  have e3 : (300 : Int32).toInt = 300 := by decide
  rw [e1] at h1
  rw [e3] at h2
  exact ⟨j - 1, by omega, by rw [show j - 1 + 1 = j by omega]⟩
theorem one_sub (j : Nat) : nI (j + 1) - 1 = nI j := by rw [nI_succ]; simp
theorem lt_nge {x y : Int32} (h : ¬ y ≤ x) : x < y := by
  rw [Int32.le_iff_toInt_le] at h; rw [Int32.lt_iff_toInt_lt]; omega
theorem ge_nlt {x y : Int32} (h : y ≤ x) : ¬ x < y := by
  rw [Int32.le_iff_toInt_le] at h; rw [Int32.lt_iff_toInt_lt]; omega
theorem wd_uu {f : wd_M} {a : Nat} {e e' : va_E} : wd_up (wd_up f a e) a e' = wd_up f a e' := by
  funext q
  by_cases h : q = a
  · subst h; rw [wd_us, wd_us]
  · rw [wd_un h, wd_un h, wd_un h]
theorem lN_s (k : Nat) : lN (k + 1) = lN k + 1 := (lN_1 k).symm
theorem cmp_nge {x y : Int64} (h : ¬ 0 ≤ lg_cmp x y) : x < y := by
  rw [lg_cmp_ge] at h; exact Int64.not_le.mp h
theorem cmp_ge {x y : Int64} (h : 0 ≤ lg_cmp x y) : ¬ x < y := by
  rw [lg_cmp_ge] at h; exact Int64.not_lt.mpr h
section GV
variable {P : Nat → PT} {no o ks : Int32} {i j : Nat}
theorem gv_nt (h : none = gvn P no o ks i) (h2 : frP (P i) no o ks = true) : some i = gvn P no o ks (i + 1) := by simp [gvn, ← h, h2]
theorem gv_nf (h : none = gvn P no o ks i) (h2 : ¬ frP (P i) no o ks = true) : none = gvn P no o ks (i + 1) := by simp [gvn, ← h, h2]
theorem gv_st (h : some j = gvn P no o ks i) (h1 : pDu (P i) < pDu (P j)) (h2 : frP (P i) no o ks = true) : some i = gvn P no o ks (i + 1) := by simp [gvn, ← h, h1, h2]
theorem gv_sd (h : some j = gvn P no o ks i) (h1 : ¬ pDu (P i) < pDu (P j)) : some j = gvn P no o ks (i + 1) := by simp [gvn, ← h, h1]
theorem gv_sf (h : some j = gvn P no o ks i) (h2 : ¬ frP (P i) no o ks = true) : some j = gvn P no o ks (i + 1) := by simp [gvn, ← h, h2]
end GV
/-- a clerk: address, in, office, skill, turn -/
abbrev KT : Type := Nat × Int32 × Int32 × Int32 × Option Nat
def kAd (x : KT) : Nat := x.1
def kIn (x : KT) : Int32 := x.2.1
def kOf (x : KT) : Int32 := x.2.2.1
def kSk (x : KT) : Int32 := x.2.2.2.1
def kTu (x : KT) : Option Nat := x.2.2.2.2
abbrev eJ (no : Int32) (x : KT) : va_E := eK no (kIn x) (kOf x) (kSk x) (kTu x)
def rk (f : wd_M) (g : Nat → Option Nat) (K : Nat → KT) : Prop := ∀ j : Nat, j < 20 → g j = some (kAd (K j)) ∧ f (kAd (K j)) = some (eJ (nI j) (K j))
/-- time passes to t: the pictures before place i -/
def sLate (x : PT) : PT := (x.1, x.2.1, x.2.2.1, x.2.2.2.1, x.2.2.2.2.1, 4, x.2.2.2.2.2.2.1, x.2.2.2.2.2.2.2)
def goesL (t : Int64) (x : PT) : Prop := pEn x = 0 ∧ pDu x < t
def pst (t : Int64) (P : Nat → PT) (i : Nat) : Nat → PT := fun j => if j < i ∧ (pEn (P j) = 0 ∧ pDu (P j) < t) then sLate (P j) else P j
def cL (t : Int64) (P : Nat → PT) : Nat → Nat
  | 0 => 0
  | n + 1 => if pEn (P n) = 0 ∧ pDu (P n) < t then cL t P n + 1 else cL t P n
theorem pst_ge {t : Int64} {P : Nat → PT} {i j : Nat} (h : i ≤ j) : pst t P i j = P j := if_neg (fun q => by omega)
theorem pst_no {t : Int64} {P : Nat → PT} {i : Nat} (h : ¬ (pEn (P i) = 0 ∧ pDu (P i) < t)) : pst t P (i + 1) = pst t P i := by
  funext j
  by_cases hj : j = i
  · subst hj
    rw [pst_ge (Nat.le_refl _)]
    exact if_neg (fun q => h q.2)
  · by_cases hl : j < i
    · simp [pst, hl, Nat.lt_succ_of_lt hl]
    · rw [pst_ge (by omega), pst_ge (by omega)]
theorem pst_yes {t : Int64} {P : Nat → PT} {i : Nat} (h : pEn (P i) = 0 ∧ pDu (P i) < t) : pst t P (i + 1) = va_up (pst t P i) i (sLate (P i)) := by
  funext j
  by_cases hj : j = i
  · subst hj
    simp [pst, va_up, h]
  · by_cases hl : j < i
    · simp [pst, va_up, hj, hl, Nat.lt_succ_of_lt hl]
    · simp only [va_up, if_neg hj]
      rw [pst_ge (by omega), pst_ge (by omega)]
/-- chains stay when no turn is written -/
theorem cx_up {f : wd_M} {no : Int32} {a : Nat} {e : va_E} (ha : ∀ x : va_E, f a = some x → ∀ fs : List Value, x ≠ .inr (2, fs)) : ∀ (L : List TR) (r : Option Nat), cx f no L r → cx (wd_up f a e) no L r := by
  intro L
  induction L with
  | nil => intro r h; exact h
  | cons t L ih =>
    intro r h
    obtain ⟨h1, er, h2, h3⟩ := h
    refine ⟨h1, er, ?_, ih er h3⟩
    rw [wd_un (fun q => ha _ (by rw [← q]; exact h2) _ rfl)]
    exact h2
theorem cx_upC {f : wd_M} {no : Int32} {a ci : Nat} {fs : List Value} {e : va_E} (ha : f a = some (.inr (ci, fs))) (hc : ci ≠ 2) {L : List TR} {r : Option Nat} (h : cx f no L r) : cx (wd_up f a e) no L r :=
  cx_up (fun x hx gs q => by rw [ha] at hx; subst q; cases hx; exact hc rfl) L r h
theorem cx_upA {f : wd_M} {no : Int32} {a : Nat} {x : ClassId × vp_A} {e : va_E} (ha : f a = some (.inl x)) {L : List TR} {r : Option Nat} (h : cx f no L r) : cx (wd_up f a e) no L r :=
  cx_up (fun y hy gs q => by rw [ha] at hy; subst q; cases hy) L r h
theorem cx_upN {f : wd_M} {no : Int32} {a : Nat} {e : va_E} (ha : f a = none) {L : List TR} {r : Option Nat} (h : cx f no L r) : cx (wd_up f a e) no L r :=
  cx_up (fun y hy gs q => by rw [ha] at hy; cases hy) L r h
/-- the pictures' addresses differ -/
theorem rp_ne {f : wd_M} {g : Nat → Option Nat} {n : Nat} {P : Nat → PT} (h : rp f g n P) {i j : Nat} (hi : i < n) (hj : j < n) (hne : i ≠ j) : pAd (P i) ≠ pAd (P j) := by
  intro q
  obtain ⟨-, la, h1, -⟩ := h.2.1 i hi
  obtain ⟨-, lb, h2, -⟩ := h.2.1 j hj
  rw [q, h2] at h1
  have e0 : nI (j + 1) = nI (i + 1) := by
    have := h1
    simp only [Option.some.injEq, Sum.inr.injEq, Prod.mk.injEq, List.cons.injEq, Value.int.injEq] at this
    exact this.2.1
  have hn := h.1
  rw [nI_eq (by omega) (by omega)] at e0
  omega
/-- a picture is written -/
theorem rp_set {f : wd_M} {g : Nat → Option Nat} {n : Nat} {P : Nat → PT} (h : rp f g n P) {i : Nat} (hi : i < n) {x : PT} {la : Option Nat} (hx : pAd x = pAd (P i)) (hla : cx (wd_up f (pAd (P i)) (eQ (nI (i + 1)) x la)) (nI (i + 1)) (pL x) la) : rp (wd_up f (pAd (P i)) (eQ (nI (i + 1)) x la)) g n (va_up P i x) := by
  refine ⟨h.1, fun j hj => ?_, h.2.2⟩
  by_cases hji : j = i
  · subst hji
    rw [show va_up P j x j = x by simp [va_up], hx]
    exact ⟨(h.2.1 j hj).1, la, wd_us, hla⟩
  · rw [show va_up P i x j = P j by simp [va_up, hji]]
    obtain ⟨h1, lb, h2, h3⟩ := h.2.1 j hj
    obtain ⟨-, lc, h4, -⟩ := h.2.1 i hi
    exact ⟨h1, lb, by rw [wd_un (rp_ne h hj hi hji)]; exact h2, cx_upC h4 (by decide) h3⟩
/-- a cell that is neither a picture nor a turn is written -/
theorem rp_off {f : wd_M} {g : Nat → Option Nat} {n : Nat} {P : Nat → PT} {a ci : Nat} {fs : List Value} {e : va_E} (h : rp f g n P) (ha : f a = some (.inr (ci, fs))) (h2 : ci ≠ 2) (h3 : ci ≠ 3) : rp (wd_up f a e) g n P := by
  refine ⟨h.1, fun j hj => ?_, h.2.2⟩
  obtain ⟨h1, lb, h4, h5⟩ := h.2.1 j hj
  exact ⟨h1, lb, by rw [wd_un (wd_ne h4 ha (Ne.symm h3))]; exact h4, cx_upC ha h2 h5⟩
theorem rk_off {f : wd_M} {g : Nat → Option Nat} {K : Nat → KT} {a ci : Nat} {fs : List Value} {e : va_E} (h : rk f g K) (ha : f a = some (.inr (ci, fs))) (h1 : ci ≠ 1) : rk (wd_up f a e) g K := fun j hj => ⟨(h j hj).1, by rw [wd_un (wd_ne (h j hj).2 ha (Ne.symm h1))]; exact (h j hj).2⟩
theorem add_n0 (x : Int32) : x + nI 0 = x := by rw [nI_0]; simp
theorem lN_z (k : Nat) : lN k + 0 = lN k := by simp
theorem pst_0 {t : Int64} {P : Nat → PT} : pst t P 0 = P := by
  funext j
  exact pst_ge (Nat.zero_le j)
theorem rp_late {f : wd_M} {g : Nat → Option Nat} {n i : Nat} {t : Int64} {P : Nat → PT} {la : Option Nat} (h : rp f g n (pst t P i)) (hi : i < n) (c : pEn (P i) = 0 ∧ pDu (P i) < t) (hp : f (pAd (P i)) = some (eQ (nI (i + 1)) (P i) la)) (hc : cx f (nI (i + 1)) (pL (P i)) la) : rp (wd_up f (pAd (P i)) (eQ (nI (i + 1)) (sLate (P i)) la)) g n (pst t P (i + 1)) := by
  have h1 := rp_set h hi (x := sLate (P i)) (la := la) (by rw [pst_ge (Nat.le_refl i)]; rfl) (by rw [pst_ge (Nat.le_refl i)]; exact cx_upC hp (by decide) hc)
  rw [pst_ge (Nat.le_refl i)] at h1
  rw [pst_yes c]
  exact h1
def agr (P : Nat → PT) (n : Nat) (x y sd : Int32) : Int64 := if ¬ (okK x ∧ okK y) then -101 else if ¬ wi sd 1 ∨ x = y then -102 else if sd = 1 then lN (agB P x y n) else lN (agA P x y n)
theorem okK_of {x : Int32} {j : Nat} (h : j < 20) (hx : x = nI j) : okK x := by
  subst hx
  exact ⟨nI_pos (by omega), nI_ge h (by decide)⟩
theorem no_K {x : Int32} (h : ¬ okK x) : ∀ j : Nat, j < 20 → x ≠ nI j := fun _ hj e => h (okK_of hj e)
theorem okP_of {x : Int32} {i : Nat} (h : i < 300) (hx : x = nI (i + 1)) : okP x := by
  subst hx
  exact ⟨nI_nlt (by omega : 1 ≤ i + 1) (by omega), nI_nlt (by omega : i + 1 ≤ 300) (by decide)⟩
theorem no_P {x : Int32} {n : Nat} (hn : n ≤ 300) (h : ¬ okP x) : ∀ i : Nat, i < n → x ≠ nI (i + 1) := fun _ hi e => h (okP_of (by omega) e)
theorem no_Q {x : Int32} {n i : Nat} (hn : n ≤ 300) (hi : i < 300) (hx : x = nI (i + 1)) (hin : n ≤ i) : ∀ j : Nat, j < n → x ≠ nI (j + 1) := by
  intro j hj e
  rw [hx, nI_eq (by omega) (by omega)] at e
  omega
theorem wd_u3 {f : wd_M} {k q : Nat} {e1 e2 e3 : va_E} : wd_up (wd_up (wd_up f k e1) q e2) k e3 = wd_up (wd_up f q e2) k e3 := by
  funext x
  by_cases h : x = k
  · subst h; rw [wd_us, wd_us]
  · rw [wd_un h, wd_un h]
    by_cases hq : x = q
    · subst hq; rw [wd_us, wd_us]
    · rw [wd_un hq, wd_un hq, wd_un h]
theorem rk_keep {f f' : wd_M} {g : Nat → Option Nat} {K : Nat → KT} {n a : Nat} {P : Nat → PT} {mo : Int32} {pa ka : Nat} {md : Int32} {nw : Int64} {lt : Int32} {gp : Nat → Option Nat} (h : rk f g K) (ha : f a = some (eR mo pa ka md nw lt)) (hp : rp f gp n P) (hk : ∀ q : Nat, q ≠ a → (∀ j : Nat, j < n → q ≠ pAd (P j)) → f' q = f q) : rk f' g K := fun j hj => ⟨(h j hj).1, by
  rw [hk _ (wd_ne (h j hj).2 ha (by decide)) (fun i hi => by obtain ⟨-, la, h2, -⟩ := hp.2.1 i hi; exact wd_ne (h j hj).2 h2 (by decide))]
  exact (h j hj).2⟩
theorem ar_keep {f f' : wd_M} {n a b : Nat} {P : Nat → PT} {mo : Int32} {pa ka : Nat} {md : Int32} {nw : Int64} {lt : Int32} {gp : Nat → Option Nat} {x : ClassId × vp_A} (hb : f b = some (.inl x)) (ha : f a = some (eR mo pa ka md nw lt)) (hp : rp f gp n P) (hk : ∀ q : Nat, q ≠ a → (∀ j : Nat, j < n → q ≠ pAd (P j)) → f' q = f q) : f' b = some (.inl x) := by
  rw [hk _ (Ne.symm (wd_neA ha hb)) (fun i hi => by obtain ⟨-, la, h2, -⟩ := hp.2.1 i hi; exact Ne.symm (wd_neA h2 hb))]
  exact hb
theorem tu_keep {f f' : wd_M} {n a q : Nat} {P : Nat → PT} {mo : Int32} {pa ka : Nat} {md : Int32} {nw : Int64} {lt : Int32} {gp : Nat → Option Nat} {pn ck to : Int32} {ea : Option Nat} {te : Int32} (hb : f q = some (eT pn ck to ea te)) (ha : f a = some (eR mo pa ka md nw lt)) (hp : rp f gp n P) (hk : ∀ q : Nat, q ≠ a → (∀ j : Nat, j < n → q ≠ pAd (P j)) → f' q = f q) : f' q = some (eT pn ck to ea te) := by
  rw [hk _ (wd_ne hb ha (by decide)) (fun i hi => by obtain ⟨-, la, h2, -⟩ := hp.2.1 i hi; exact wd_ne hb h2 (by decide))]
  exact hb
theorem gvn_lt {P : Nat → PT} {no o ks : Int32} : ∀ (n b : Nat), gvn P no o ks n = some b → b < n := by
  intro n
  induction n with
  | zero => intro b h; cases h
  | succ n ih =>
    intro b h
    simp only [gvn] at h
    split at h
    · split at h
      · cases h; exact Nat.lt_succ_self n
      · cases h
    · rename_i b' hb'
      split at h
      · cases h; exact Nat.lt_succ_self n
      · cases h; exact Nat.lt_succ_of_lt (ih _ hb')
/-- an entry is written into a turn of a chain -/
def sE (q : Nat) (x : Int32) (L : List TR) : List TR := L.map (fun t => if t.1 = q then (t.1, t.2.1, t.2.2.1, x) else t)
theorem cx_entry {f : wd_M} {no : Int32} {q : Nat} {ck to : Int32} {ea : Option Nat} {te x : Int32} (hq : f q = some (eT no ck to ea te)) : ∀ (L : List TR) (r : Option Nat), cx f no L r → cx (wd_up f q (eT no ck to ea x)) no (sE q x L) r := by
  intro L
  induction L with
  | nil => intro r h; exact h
  | cons t L ih =>
    intro r h
    obtain ⟨h1, er, h2, h3⟩ := h
    by_cases ht : t.1 = q
    · have h4 : (eT no ck to ea te) = eT no t.2.1 t.2.2.1 er t.2.2.2 := by
        rw [ht, hq] at h2
        exact Option.some.inj h2
      have h5 : ck = t.2.1 ∧ to = t.2.2.1 ∧ va_rf ea = va_rf er := by
        simp only [Sum.inr.injEq, Prod.mk.injEq, List.cons.injEq, Value.int.injEq] at h4
        exact ⟨h4.2.2.1, h4.2.2.2.1, h4.2.2.2.2.1⟩
      have h6 : ea = er := by
        have := h5.2.2
        cases ea <;> cases er <;> simp [va_rf] at this ⊢
        exact this
      show cx _ no ((if t.1 = q then (t.1, t.2.1, t.2.2.1, x) else t) :: sE q x L) r
      rw [if_pos ht]
      refine ⟨h1, er, ?_, ih er h3⟩
      show wd_up f q (eT no ck to ea x) t.1 = some (eT no t.2.1 t.2.2.1 er x)
      rw [ht, wd_us, h5.1, h5.2.1, h6]
    · show cx _ no ((if t.1 = q then (t.1, t.2.1, t.2.2.1, x) else t) :: sE q x L) r
      rw [if_neg ht]
      exact ⟨h1, er, by rw [wd_un ht]; exact h2, ih er h3⟩
theorem pst_ad (t : Int64) (P : Nat → PT) (n i : Nat) : pAd (pst t P n i) = pAd (P i) := by
  unfold pst
  split
  · rfl
  · rfl
def mx (x : Int32) : Int32 := if 1 < (if x < 100 then x else 100) then (if x < 100 then x else 100) else 1
theorem ini_keep {f0 f1 f2 f3 : wd_M} {q k b : Nat} {e1 e2 e3 : va_E} {no : Int32} {x : ClassId × vp_A} (h1 : f1 = wd_up f0 q e1) (h2 : f2 = wd_up f1 q e2) (h3 : f3 = wd_up f2 b e3) (g2 : f0 k = some (eK no 0 0 0 none)) (hq : f0 q = none) (hb : f0 b = some (.inl x)) : f3 k = some (eK no 0 0 0 none) := by
  rw [h3, wd_un (wd_neA g2 hb), h2, wd_un (wd_neF g2 hq), h1, wd_un (wd_neF g2 hq)]
  exact g2
end
section
abbrev rm_ClerkRows_isWithin : Room := { frames := 0, cells := 0, slots := 0, locals := 0 }
set_option maxHeartbeats 4000000 in
set_option maxRecDepth 100000 in
theorem c_ClerkRows_isWithin {l : Launch} {D : va_G} {ca : Nat → ClassId} {f : wd_M} (x y : Int32) : Met l y_ClerkRows_isWithin (.code y_ClerkRows_isWithin b_ClerkRows_isWithin 2 (some .boolean) :: tb) rm_ClerkRows_isWithin (va_Pc [.int x, .int y] (wd_pre D classes (ty ca) f)) (vp_Si (zb (wi x y))) 0 0 (fun _ => False) := by
  refine wd_Sz (own := R_ClerkRows) (by decide) rfl (Nat.le_of_ble_eq_true rfl) ?_
  intro p e s m args below meth c Q X hK hw ret ls hl
  have hx := X.1
  have hb := X.2.1
  have hown := X.2.2.2.1
  have hts := X.2.2.2.2
  have hl : lv_has ls 2 [(0, .int x), (1, .int y)] := hl
  refine lv_iload_n hx hb d_ClerkRows_isWithin_0 rfl (lv_at hl 0 rfl) ?_
  refine lv_if_lt (tgt := 13) hx hb d_ClerkRows_isWithin_1 (by decide) (fun c1 => ?_) (fun c1 => ?_)
  · skip
    refine lv_iconst (v := 0) hx hb d_ClerkRows_isWithin_13 (by decide) ?_
    exact ret _ _ _ d_ClerkRows_isWithin_14 rfl (Or.inr ⟨fun h => h.1 c1, rfl⟩)
  · skip
    refine lv_iload_n hx hb d_ClerkRows_isWithin_4 rfl (lv_at hl 0 rfl) ?_
    refine lv_iload_n hx hb d_ClerkRows_isWithin_5 rfl (lv_at hl 1 rfl) ?_
    refine lv_icmp_gt (tgt := 13) hx hb d_ClerkRows_isWithin_6 (by decide) (fun c2 => ?_) (fun c2 => ?_)
    · skip
      refine lv_iconst (v := 0) hx hb d_ClerkRows_isWithin_13 (by decide) ?_
      exact ret _ _ _ d_ClerkRows_isWithin_14 rfl (Or.inr ⟨fun h => h.2 c2, rfl⟩)
    · skip
      refine lv_iconst (v := 1) hx hb d_ClerkRows_isWithin_9 (by decide) ?_
      refine lv_goto (tgt := 14) hx hb d_ClerkRows_isWithin_10 (by decide) ?_
      exact ret _ _ _ d_ClerkRows_isWithin_14 rfl (Or.inl ⟨⟨c1, c2⟩, rfl⟩)

abbrev rm_ClerkRows_isTime : Room := { frames := 0, cells := 0, slots := 0, locals := 0 }
set_option maxHeartbeats 4000000 in
set_option maxRecDepth 100000 in
theorem c_ClerkRows_isTime {l : Launch} {D : va_G} {ca : Nat → ClassId} {f : wd_M} (a : Nat) (mo : Int32) (pa ka : Nat) (md : Int32) (nw : Int64) (lt : Int32) (ha : f a = some (eR mo pa ka md nw lt)) (t : Int64) : Met l y_ClerkRows_isTime (.code y_ClerkRows_isTime b_ClerkRows_isTime 3 (some .boolean) :: tb) rm_ClerkRows_isTime (va_Pc [.ref a, .long t] (wd_pre D classes (ty ca) f)) (vp_Si (zb (isT nw t))) 0 0 (fun _ => False) := by
  refine wd_Sz (own := R_ClerkRows) (by decide) rfl (Nat.le_of_ble_eq_true rfl) ?_
  intro p e s m args below meth c Q X hK hw ret ls hl
  have hx := X.1
  have hb := X.2.1
  have hown := X.2.2.2.1
  have hts := X.2.2.2.2
  have hl : lv_has ls 3 [(0, .ref a), (1, .long t)] := hl
  refine lv_lload_n hx hb d_ClerkRows_isTime_0 rfl (lv_at hl 1 rfl) ?_
  refine lv_aload_n hx hb d_ClerkRows_isTime_1 rfl (lv_at hl 0 rfl) ?_
  refine fg_ClerkRows_25 X hK hw ha d_ClerkRows_isTime_2 ?_
  refine W.lcmp hx hb d_ClerkRows_isTime_5 ?_
  refine lv_if_lt (tgt := 21) hx hb d_ClerkRows_isTime_6 (by decide) (fun c1 => ?_) (fun c1 => ?_)
  · skip
    refine lv_iconst (v := 0) hx hb d_ClerkRows_isTime_21 (by decide) ?_
    exact ret _ _ _ d_ClerkRows_isTime_22 rfl (Or.inr ⟨fun h => h.1 ((lg_cmp_lt _ _).mp c1), rfl⟩)
  · skip
    refine lv_lload_n hx hb d_ClerkRows_isTime_9 rfl (lv_at hl 1 rfl) ?_
    refine lv_ldc2 (v := 1000000000) hx hb hown (hts _ k_ClerkRows_129) d_ClerkRows_isTime_10 ?_
    refine W.lcmp hx hb d_ClerkRows_isTime_13 ?_
    refine lv_if_gt (tgt := 21) hx hb d_ClerkRows_isTime_14 (by decide) (fun c2 => ?_) (fun c2 => ?_)
    · skip
      refine lv_iconst (v := 0) hx hb d_ClerkRows_isTime_21 (by decide) ?_
      exact ret _ _ _ d_ClerkRows_isTime_22 rfl (Or.inr ⟨fun h => h.2 ((lg_cmp_gt _ _).mp c2), rfl⟩)
    · skip
      refine lv_iconst (v := 1) hx hb d_ClerkRows_isTime_17 (by decide) ?_
      refine lv_goto (tgt := 22) hx hb d_ClerkRows_isTime_18 (by decide) ?_
      exact ret _ _ _ d_ClerkRows_isTime_22 rfl (Or.inl ⟨⟨fun h => c1 ((lg_cmp_lt _ _).mpr h), fun h => c2 ((lg_cmp_gt _ _).mpr h)⟩, rfl⟩)

abbrev rm_ClerkRows_findClerk : Room := { frames := 0, cells := 0, slots := 0, locals := 0 }
set_option maxHeartbeats 4000000 in
set_option maxRecDepth 100000 in
theorem c_ClerkRows_findClerk {l : Launch} {D : va_G} {ca : Nat → ClassId} {f : wd_M} (a : Nat) (mo : Int32) (pa ka : Nat) (md : Int32) (nw : Int64) (lt : Int32) (ha : f a = some (eR mo pa ka md nw lt)) (gk : Nat → Option Nat) (hk : f ka = some (eA (ca 1) 20 gk)) (x : Int32) : Met l y_ClerkRows_findClerk (.code y_ClerkRows_findClerk b_ClerkRows_findClerk 2 (some (.object "ClerkRows$Clerk")) :: tb) rm_ClerkRows_findClerk (va_Pc [.ref a, .int x] (wd_pre D classes (ty ca) f)) (va_Sq (fun r => (∃ j : Nat, j < 20 ∧ x = nI j ∧ r = gk j) ∨ (¬ (¬ x < 0 ∧ ¬ 20 ≤ x) ∧ r = none))) 0 0 (fun _ => False) := by
  refine wd_Sq (own := R_ClerkRows) (by decide) rfl (Nat.le_of_ble_eq_true rfl) ?_
  intro p e s m args below meth c Q X hK hw ret ls hl
  have hx := X.1
  have hb := X.2.1
  have hown := X.2.2.2.1
  have hts := X.2.2.2.2
  have hl : lv_has ls 2 [(0, .ref a), (1, .int x)] := hl
  refine lv_iload_n hx hb d_ClerkRows_findClerk_0 rfl (lv_at hl 1 rfl) ?_
  refine lv_if_lt (tgt := 19) hx hb d_ClerkRows_findClerk_1 (by decide) (fun c1 => ?_) (fun c1 => ?_)
  · skip
    refine lv_null hx hb d_ClerkRows_findClerk_19 ?_
    exact ret _ _ none _ d_ClerkRows_findClerk_20 rfl (Or.inr ⟨fun h => h.1 c1, rfl⟩)
  · skip
    refine lv_iload_n hx hb d_ClerkRows_findClerk_4 rfl (lv_at hl 1 rfl) ?_
    refine lv_bipush (v := 20) hx hb d_ClerkRows_findClerk_5 (by decide) ?_
    refine lv_icmp_ge (tgt := 19) hx hb d_ClerkRows_findClerk_7 (by decide) (fun c2 => ?_) (fun c2 => ?_)
    · skip
      refine lv_null hx hb d_ClerkRows_findClerk_19 ?_
      exact ret _ _ none _ d_ClerkRows_findClerk_20 rfl (Or.inr ⟨fun h => h.2 c2, rfl⟩)
    · skip
      refine lv_aload_n hx hb d_ClerkRows_findClerk_10 rfl (lv_at hl 0 rfl) ?_
      refine fg_ClerkRows_17 X hK hw ha d_ClerkRows_findClerk_11 ?_
      refine lv_iload_n hx hb d_ClerkRows_findClerk_14 rfl (lv_at hl 1 rfl) ?_
      obtain ⟨j, hj, rfl⟩ := ok20 c1 c2
      refine wd_aldq X hK hw hk 1 rfl (vp_in_nI hj (by decide)) d_ClerkRows_findClerk_15 ?_
      rw [nI_clamp (Nat.lt_trans hj (by decide))]
      refine lv_goto (tgt := 20) hx hb d_ClerkRows_findClerk_16 (by decide) ?_
      exact ret _ _ (gk j) _ d_ClerkRows_findClerk_20 rfl (Or.inl ⟨j, hj, rfl, rfl⟩)

abbrev rm_ClerkRows_findPicture : Room := { frames := 0, cells := 0, slots := 0, locals := 0 }
set_option maxHeartbeats 4000000 in
set_option maxRecDepth 100000 in
theorem c_ClerkRows_findPicture {l : Launch} {D : va_G} {ca : Nat → ClassId} {f : wd_M} (a : Nat) (mo : Int32) (pa ka : Nat) (md : Int32) (nw : Int64) (lt : Int32) (ha : f a = some (eR mo pa ka md nw lt)) (gp : Nat → Option Nat) (hg : f pa = some (eA (ca 0) 300 gp)) (x : Int32) : Met l y_ClerkRows_findPicture (.code y_ClerkRows_findPicture b_ClerkRows_findPicture 2 (some (.object "ClerkRows$Picture")) :: tb) rm_ClerkRows_findPicture (va_Pc [.ref a, .int x] (wd_pre D classes (ty ca) f)) (va_Sq (fun r => (∃ j : Nat, j < 300 ∧ x = nI (j + 1) ∧ r = gp j) ∨ (¬ (¬ x < 1 ∧ ¬ 300 < x) ∧ r = none))) 0 0 (fun _ => False) := by
  refine wd_Sq (own := R_ClerkRows) (by decide) rfl (Nat.le_of_ble_eq_true rfl) ?_
  intro p e s m args below meth c Q X hK hw ret ls hl
  have hx := X.1
  have hb := X.2.1
  have hown := X.2.2.2.1
  have hts := X.2.2.2.2
  have hl : lv_has ls 2 [(0, .ref a), (1, .int x)] := hl
  refine lv_iload_n hx hb d_ClerkRows_findPicture_0 rfl (lv_at hl 1 rfl) ?_
  refine lv_iconst (v := 1) hx hb d_ClerkRows_findPicture_1 (by decide) ?_
  refine lv_icmp_lt (tgt := 23) hx hb d_ClerkRows_findPicture_2 (by decide) (fun c1 => ?_) (fun c1 => ?_)
  · skip
    refine lv_null hx hb d_ClerkRows_findPicture_23 ?_
    exact ret _ _ none _ d_ClerkRows_findPicture_24 rfl (Or.inr ⟨fun h => h.1 c1, rfl⟩)
  · skip
    refine lv_iload_n hx hb d_ClerkRows_findPicture_5 rfl (lv_at hl 1 rfl) ?_
    refine lv_sipush (v := 300) hx hb d_ClerkRows_findPicture_6 (by decide) ?_
    refine lv_icmp_gt (tgt := 23) hx hb d_ClerkRows_findPicture_9 (by decide) (fun c2 => ?_) (fun c2 => ?_)
    · skip
      refine lv_null hx hb d_ClerkRows_findPicture_23 ?_
      exact ret _ _ none _ d_ClerkRows_findPicture_24 rfl (Or.inr ⟨fun h => h.2 c2, rfl⟩)
    · skip
      refine lv_aload_n hx hb d_ClerkRows_findPicture_12 rfl (lv_at hl 0 rfl) ?_
      refine fg_ClerkRows_11 X hK hw ha d_ClerkRows_findPicture_13 ?_
      refine lv_iload_n hx hb d_ClerkRows_findPicture_16 rfl (lv_at hl 1 rfl) ?_
      refine lv_iconst (v := 1) hx hb d_ClerkRows_findPicture_17 (by decide) ?_
      refine lv_isub hx hb d_ClerkRows_findPicture_18 ?_
      obtain ⟨j, hj, rfl⟩ := ok300 c1 c2
      rw [one_sub j]
      refine wd_aldq X hK hw hg 0 rfl (vp_in_nI hj (by decide)) d_ClerkRows_findPicture_19 ?_
      rw [nI_clamp (Nat.lt_trans hj (by decide))]
      refine lv_goto (tgt := 24) hx hb d_ClerkRows_findPicture_20 (by decide) ?_
      exact ret _ _ (gp j) _ d_ClerkRows_findPicture_24 rfl (Or.inl ⟨j, hj, rfl, rfl⟩)

abbrev rm_Picture_hasEnded : Room := { frames := 0, cells := 0, slots := 0, locals := 0 }
set_option maxHeartbeats 4000000 in
set_option maxRecDepth 100000 in
theorem c_Picture_hasEnded {l : Launch} {D : va_G} {ca : Nat → ClassId} {f : wd_M} (a : Nat) (no : Int32) (du : Int64) (sk wa an en sw : Int32) (la : Option Nat) (ha : f a = some (eP no du sk wa an en sw la)) : Met l y_Picture_hasEnded (.code y_Picture_hasEnded b_Picture_hasEnded 1 (some .boolean) :: tb) rm_Picture_hasEnded (va_Pc [.ref a] (wd_pre D classes (ty ca) f)) (vp_Si (zb (¬ en = 0))) 0 0 (fun _ => False) := by
  refine wd_Sz (own := R_Picture) (by decide) rfl (Nat.le_of_ble_eq_true rfl) ?_
  intro p e s m args below meth c Q X hK hw ret ls hl
  have hx := X.1
  have hb := X.2.1
  have hown := X.2.2.2.1
  have hts := X.2.2.2.2
  have hl : lv_has ls 1 [(0, .ref a)] := hl
  refine lv_aload_n hx hb d_Picture_hasEnded_0 rfl (lv_at hl 0 rfl) ?_
  refine fg_Picture_18 X hK hw ha d_Picture_hasEnded_1 ?_
  refine lv_if_eq (tgt := 11) hx hb d_Picture_hasEnded_4 (by decide) (fun c1 => ?_) (fun c1 => ?_)
  · skip
    refine lv_iconst (v := 0) hx hb d_Picture_hasEnded_11 (by decide) ?_
    exact ret _ _ _ d_Picture_hasEnded_12 rfl (Or.inr ⟨fun h => h c1, rfl⟩)
  · skip
    refine lv_iconst (v := 1) hx hb d_Picture_hasEnded_7 (by decide) ?_
    refine lv_goto (tgt := 12) hx hb d_Picture_hasEnded_8 (by decide) ?_
    exact ret _ _ _ d_Picture_hasEnded_12 rfl (Or.inl ⟨c1, rfl⟩)

abbrev rm_Picture_endAlike : Room := { frames := 0, cells := 0, slots := 0, locals := 0 }
set_option maxHeartbeats 4000000 in
set_option maxRecDepth 100000 in
theorem c_Picture_endAlike {l : Launch} {D : va_G} {ca : Nat → ClassId} {f : wd_M} {sz : Nat} (a : Nat) (no : Int32) (du : Int64) (sk wa an en sw : Int32) (la : Option Nat) (ha : f a = some (eP no du sk wa an en sw la)) (x : Int32) : Met l y_Picture_endAlike (.code y_Picture_endAlike b_Picture_endAlike 2 none :: tb) rm_Picture_endAlike (va_Pc [.ref a, .int x] (wd_preZ D classes (ty ca) f sz)) (va_Qv (fun f' => f' = wd_up f a (eP no du sk wa an (if x = 0 then 3 else 2) (if x = 0 then sw else x) la)) (wd_B D classes f sz) (wd_A f sz)) 0 0 (wd_A f sz) := by
  refine wd_Qv (own := R_Picture) (by decide) rfl (Nat.le_of_ble_eq_true rfl) ?_
  intro p e s m args below meth c Q X hK hnm hw ret ls hl
  have hx := X.1
  have hb := X.2.1
  have hown := X.2.2.2.1
  have hts := X.2.2.2.2
  have hl : lv_has ls 2 [(0, .ref a), (1, .int x)] := hl
  refine lv_iload_n hx hb d_Picture_endAlike_0 rfl (lv_at hl 1 rfl) ?_
  refine lv_if_ne (tgt := 12) hx hb d_Picture_endAlike_1 (by decide) (fun c1 => ?_) (fun c1 => ?_)
  · skip
    refine lv_aload_n hx hb d_Picture_endAlike_12 rfl (lv_at hl 0 rfl) ?_
    refine lv_iconst (v := 2) hx hb d_Picture_endAlike_13 (by decide) ?_
    refine fp_Picture_18 X hK hw ha rfl rfl d_Picture_endAlike_14 (fun f2 H locs ef2 hw => ?_)
    have ha : f2 a = some (eP no du sk wa an 2 sw la) := by rw [ef2]; exact wd_us
    refine lv_aload_n hx hb d_Picture_endAlike_17 rfl (lv_at hl 0 rfl) ?_
    refine lv_iload_n hx hb d_Picture_endAlike_18 rfl (lv_at hl 1 rfl) ?_
    refine fp_Picture_21 X hK hw ha rfl rfl d_Picture_endAlike_19 (fun f3 H locs ef3 hw => ?_)
    have ha : f3 a = some (eP no du sk wa an 2 x la) := by rw [ef3]; exact wd_us
    exact ret _ _ _ _ _ d_Picture_endAlike_22 hw (by rw [if_neg c1, if_neg c1]; exact Eq.trans ef3 (by rw [ef2]; exact wd_uu))
  · skip
    refine lv_aload_n hx hb d_Picture_endAlike_4 rfl (lv_at hl 0 rfl) ?_
    refine lv_iconst (v := 3) hx hb d_Picture_endAlike_5 (by decide) ?_
    refine fp_Picture_18 X hK hw ha rfl rfl d_Picture_endAlike_6 (fun f4 H locs ef4 hw => ?_)
    have ha : f4 a = some (eP no du sk wa an 3 sw la) := by rw [ef4]; exact wd_us
    refine lv_goto (tgt := 22) hx hb d_Picture_endAlike_9 (by decide) ?_
    exact ret _ _ _ _ _ d_Picture_endAlike_22 hw (by rw [if_pos c1, if_pos c1]; exact ef4)
end
section
abbrev rm_Picture_isWanting : Room := { frames := 0, cells := 0, slots := 0, locals := 0 }
set_option maxHeartbeats 4000000 in
set_option maxRecDepth 100000 in
theorem c_Picture_isWanting {l : Launch} {D : va_G} {ca : Nat → ClassId} {f : wd_M} (a : Nat) (no : Int32) (du : Int64) (sk wa an en sw : Int32) (la : Option Nat) (ha : f a = some (eP no du sk wa an en sw la)) (L : List TR) (hL : cx f no L la) : Met l y_Picture_isWanting (.code y_Picture_isWanting b_Picture_isWanting 3 (some .boolean) :: tb) rm_Picture_isWanting (va_Pc [.ref a] (wd_pre D classes (ty ca) f)) (vp_Si (zb (nI (tk L) < wa))) 0 0 (fun _ => False) := by
  refine wd_Sz (own := R_Picture) (by decide) rfl (Nat.le_of_ble_eq_true rfl) ?_
  intro p e s m args below meth c Q X hK hw ret ls hl
  have hx := X.1
  have hb := X.2.1
  have hown := X.2.2.2.1
  have hts := X.2.2.2.2
  have hl : lv_has ls 3 [(0, .ref a)] := hl
  refine lv_iconst (v := 0) hx hb d_Picture_isWanting_0 (by decide) ?_
  refine lv_istore_n (lv' := [(1, .int 0), (0, .ref a)]) hx hb d_Picture_isWanting_1 rfl hl (by decide) rfl (fun ls hl => ?_)
  refine lv_aload_n hx hb d_Picture_isWanting_2 rfl (lv_at hl 1 rfl) ?_
  refine fg_Picture_24 X hK hw ha d_Picture_isWanting_3 ?_
  refine wd_astore_n (lv' := [(2, va_rf la), (1, .int 0), (0, .ref a)]) hx hb d_Picture_isWanting_6 rfl hl (by decide) rfl (fun ls hl => ?_)
  have loop : ∀ (M : List TR) (k : Nat) (r : Option Nat) (ls : Array Slot), cx f no M r → tk L = k + tk M → lv_has ls 3 [(2, va_rf r), (1, .int (nI k)), (0, .ref a)] → W p l e rm_Picture_isWanting s m args below meth c s.heap [] 0 0 Q (F0 m 7 ls []) := by
    intro M
    induction M with
    | nil =>
      intro k r ls hc hk hl
      have hc : r = none := hc
      subst hc
      have hl : lv_has ls 3 [(2, .null), (1, .int (nI k)), (0, .ref a)] := hl
      refine lv_aload_nN hx hb d_Picture_isWanting_7 rfl (lv_at hl 0 rfl) ?_
      refine lv_ifnullN (tgt := 31) hx hb d_Picture_isWanting_8 (by decide) ?_
      refine lv_iload_n hx hb d_Picture_isWanting_31 rfl (lv_at hl 1 rfl) ?_
      refine lv_aload_n hx hb d_Picture_isWanting_32 rfl (lv_at hl 2 rfl) ?_
      refine fg_Picture_9 X hK hw ha d_Picture_isWanting_33 ?_
      refine lv_icmp_ge (tgt := 43) hx hb d_Picture_isWanting_36 (by decide) (fun c1 => ?_) (fun c1 => ?_)
      · skip
        refine lv_iconst (v := 0) hx hb d_Picture_isWanting_43 (by decide) ?_
        exact ret _ _ _ d_Picture_isWanting_44 rfl (Or.inr ⟨by rw [hk]; exact ge_nlt c1, rfl⟩)
      · skip
        refine lv_iconst (v := 1) hx hb d_Picture_isWanting_39 (by decide) ?_
        refine lv_goto (tgt := 44) hx hb d_Picture_isWanting_40 (by decide) ?_
        exact ret _ _ _ d_Picture_isWanting_44 rfl (Or.inl ⟨by rw [hk]; exact lt_nge c1, rfl⟩)
    | cons t M ih =>
      intro k r ls hc hk hl
      obtain ⟨hc, er, ht, hm⟩ := hc
      subst hc
      have hl : lv_has ls 3 [(2, .ref t.1), (1, .int (nI k)), (0, .ref a)] := hl
      refine lv_aload_n hx hb d_Picture_isWanting_7 rfl (lv_at hl 0 rfl) ?_
      refine lv_ifnull hx hb d_Picture_isWanting_8 ?_
      refine lv_aload_n hx hb d_Picture_isWanting_11 rfl (lv_at hl 0 rfl) ?_
      refine fg_Picture_61 X hK hw ht d_Picture_isWanting_12 ?_
      refine lv_bipush (v := (-2)) hx hb d_Picture_isWanting_15 (by decide) ?_
      refine lv_icmp_eq (tgt := 23) hx hb d_Picture_isWanting_17 (by decide) (fun c2 => ?_) (fun c2 => ?_)
      · skip
        refine lv_aload_n hx hb d_Picture_isWanting_23 rfl (lv_at hl 0 rfl) ?_
        refine fg_Picture_71 X hK hw ht d_Picture_isWanting_24 ?_
        refine wd_astore_n (lv' := [(2, va_rf er), (1, .int (nI k)), (0, .ref a)]) hx hb d_Picture_isWanting_27 rfl hl (by decide) rfl (fun ls hl => ?_)
        refine lv_goto (tgt := 7) hx hb d_Picture_isWanting_28 (by decide) ?_
        exact ih k er ls hm (by rw [hk]; simp [tk, c2]) (lv_sub hl [0, 1, 2] rfl)
      · skip
        refine lv_iinc (v := ((nI k) + 1)) (lv' := [(1, .int ((nI k) + 1)), (2, .ref t.1), (0, .ref a)]) hx hb d_Picture_isWanting_20 hl (k := 1) rfl rfl (by decide) rfl (fun ls hl => ?_)
        refine lv_aload_n hx hb d_Picture_isWanting_23 rfl (lv_at hl 1 rfl) ?_
        refine fg_Picture_71 X hK hw ht d_Picture_isWanting_24 ?_
        refine wd_astore_n (lv' := [(2, va_rf er), (1, .int ((nI k) + 1)), (0, .ref a)]) hx hb d_Picture_isWanting_27 rfl hl (by decide) rfl (fun ls hl => ?_)
        refine lv_goto (tgt := 7) hx hb d_Picture_isWanting_28 (by decide) ?_
        exact ih (k + 1) er ls hm (by rw [hk]; simp only [tk, if_neg c2]; omega) (by rw [nI_succ k]; exact lv_sub hl [0, 1, 2] rfl)
  exact loop L 0 la ls hL (Nat.zero_add _).symm (lv_sub hl [0, 1, 2] rfl)

abbrev rm_Picture_hasEntry : Room := { frames := 0, cells := 0, slots := 0, locals := 0 }
set_option maxHeartbeats 4000000 in
set_option maxRecDepth 100000 in
theorem c_Picture_hasEntry {l : Launch} {D : va_G} {ca : Nat → ClassId} {f : wd_M} (a : Nat) (no : Int32) (du : Int64) (sk wa an en sw : Int32) (la : Option Nat) (ha : f a = some (eP no du sk wa an en sw la)) (L : List TR) (hL : cx f no L la) (x : Int32) : Met l y_Picture_hasEntry (.code y_Picture_hasEntry b_Picture_hasEntry 3 (some .boolean) :: tb) rm_Picture_hasEntry (va_Pc [.ref a, .int x] (wd_pre D classes (ty ca) f)) (vp_Si (zb (hasE x L = true))) 0 0 (fun _ => False) := by
  refine wd_Sz (own := R_Picture) (by decide) rfl (Nat.le_of_ble_eq_true rfl) ?_
  intro p e s m args below meth c Q X hK hw ret ls hl
  have hx := X.1
  have hb := X.2.1
  have hown := X.2.2.2.1
  have hts := X.2.2.2.2
  have hl : lv_has ls 3 [(0, .ref a), (1, .int x)] := hl
  refine lv_aload_n hx hb d_Picture_hasEntry_0 rfl (lv_at hl 0 rfl) ?_
  refine fg_Picture_24 X hK hw ha d_Picture_hasEntry_1 ?_
  refine wd_astore_n (lv' := [(2, va_rf la), (0, .ref a), (1, .int x)]) hx hb d_Picture_hasEntry_4 rfl hl (by decide) rfl (fun ls hl => ?_)
  have loop : ∀ (M : List TR) (r : Option Nat) (ls : Array Slot), cx f no M r → hasE x L = hasE x M → lv_has ls 3 [(2, va_rf r), (1, .int x), (0, .ref a)] → W p l e rm_Picture_hasEntry s m args below meth c s.heap [] 0 0 Q (F0 m 5 ls []) := by
    intro M
    induction M with
    | nil =>
      intro r ls hc hi hl
      have hc : r = none := hc
      subst hc
      have hl : lv_has ls 3 [(2, .null), (1, .int x), (0, .ref a)] := hl
      refine lv_aload_nN hx hb d_Picture_hasEntry_5 rfl (lv_at hl 0 rfl) ?_
      refine lv_ifnullN (tgt := 27) hx hb d_Picture_hasEntry_6 (by decide) ?_
      refine lv_iconst (v := 0) hx hb d_Picture_hasEntry_27 (by decide) ?_
      exact ret _ _ _ d_Picture_hasEntry_28 rfl (Or.inr ⟨by rw [hi]; simp [hasE], rfl⟩)
    | cons t M ih =>
      intro r ls hc hi hl
      obtain ⟨hc, er, ht, hm⟩ := hc
      subst hc
      have hl : lv_has ls 3 [(2, .ref t.1), (1, .int x), (0, .ref a)] := hl
      refine lv_aload_n hx hb d_Picture_hasEntry_5 rfl (lv_at hl 0 rfl) ?_
      refine lv_ifnull hx hb d_Picture_hasEntry_6 ?_
      refine lv_aload_n hx hb d_Picture_hasEntry_9 rfl (lv_at hl 0 rfl) ?_
      refine fg_Picture_61 X hK hw ht d_Picture_hasEntry_10 ?_
      refine lv_iload_n hx hb d_Picture_hasEntry_13 rfl (lv_at hl 1 rfl) ?_
      refine lv_icmp_ne (tgt := 19) hx hb d_Picture_hasEntry_14 (by decide) (fun c1 => ?_) (fun c1 => ?_)
      · skip
        refine lv_aload_n hx hb d_Picture_hasEntry_19 rfl (lv_at hl 0 rfl) ?_
        refine fg_Picture_71 X hK hw ht d_Picture_hasEntry_20 ?_
        refine wd_astore_n (lv' := [(2, va_rf er), (1, .int x), (0, .ref a)]) hx hb d_Picture_hasEntry_23 rfl hl (by decide) rfl (fun ls hl => ?_)
        refine lv_goto (tgt := 5) hx hb d_Picture_hasEntry_24 (by decide) ?_
        exact ih er ls hm (hi.trans (by simp [hasE, c1])) (lv_sub hl [0, 1, 2] rfl)
      · skip
        refine lv_iconst (v := 1) hx hb d_Picture_hasEntry_17 (by decide) ?_
        exact ret _ _ _ d_Picture_hasEntry_18 rfl (Or.inl ⟨hi.trans (by simp [hasE, c1]), rfl⟩)
  exact loop L la ls hL rfl (lv_sub hl [0, 2, 1] rfl)

abbrev rm_Picture_findEntry : Room := { frames := 0, cells := 0, slots := 0, locals := 0 }
set_option maxHeartbeats 4000000 in
set_option maxRecDepth 100000 in
theorem c_Picture_findEntry {l : Launch} {D : va_G} {ca : Nat → ClassId} {f : wd_M} (a : Nat) (no : Int32) (du : Int64) (sk wa an en sw : Int32) (la : Option Nat) (ha : f a = some (eP no du sk wa an en sw la)) (L : List TR) (hL : cx f no L la) (x : Int32) : Met l y_Picture_findEntry (.code y_Picture_findEntry b_Picture_findEntry 3 (some .int) :: tb) rm_Picture_findEntry (va_Pc [.ref a, .int x] (wd_pre D classes (ty ca) f)) (vp_Si (fun r => r = fndE x L)) 0 0 (fun _ => False) := by
  refine wd_Si (own := R_Picture) (by decide) rfl (Nat.le_of_ble_eq_true rfl) ?_
  intro p e s m args below meth c Q X hK hw ret ls hl
  have hx := X.1
  have hb := X.2.1
  have hown := X.2.2.2.1
  have hts := X.2.2.2.2
  have hl : lv_has ls 3 [(0, .ref a), (1, .int x)] := hl
  refine lv_aload_n hx hb d_Picture_findEntry_0 rfl (lv_at hl 0 rfl) ?_
  refine fg_Picture_24 X hK hw ha d_Picture_findEntry_1 ?_
  refine wd_astore_n (lv' := [(2, va_rf la), (0, .ref a), (1, .int x)]) hx hb d_Picture_findEntry_4 rfl hl (by decide) rfl (fun ls hl => ?_)
  have loop : ∀ (M : List TR) (r : Option Nat) (ls : Array Slot), cx f no M r → fndE x L = fndE x M → lv_has ls 3 [(2, va_rf r), (1, .int x), (0, .ref a)] → W p l e rm_Picture_findEntry s m args below meth c s.heap [] 0 0 Q (F0 m 5 ls []) := by
    intro M
    induction M with
    | nil =>
      intro r ls hc hi hl
      have hc : r = none := hc
      subst hc
      have hl : lv_has ls 3 [(2, .null), (1, .int x), (0, .ref a)] := hl
      refine lv_aload_nN hx hb d_Picture_findEntry_5 rfl (lv_at hl 0 rfl) ?_
      refine lv_ifnullN (tgt := 30) hx hb d_Picture_findEntry_6 (by decide) ?_
      refine lv_iconst (v := (-1)) hx hb d_Picture_findEntry_30 (by decide) ?_
      exact ret _ _ _ d_Picture_findEntry_31 (by rw [hi]; rfl)
    | cons t M ih =>
      intro r ls hc hi hl
      obtain ⟨hc, er, ht, hm⟩ := hc
      subst hc
      have hl : lv_has ls 3 [(2, .ref t.1), (1, .int x), (0, .ref a)] := hl
      refine lv_aload_n hx hb d_Picture_findEntry_5 rfl (lv_at hl 0 rfl) ?_
      refine lv_ifnull hx hb d_Picture_findEntry_6 ?_
      refine lv_aload_n hx hb d_Picture_findEntry_9 rfl (lv_at hl 0 rfl) ?_
      refine fg_Picture_68 X hK hw ht d_Picture_findEntry_10 ?_
      refine lv_iload_n hx hb d_Picture_findEntry_13 rfl (lv_at hl 1 rfl) ?_
      refine lv_icmp_ne (tgt := 22) hx hb d_Picture_findEntry_14 (by decide) (fun c1 => ?_) (fun c1 => ?_)
      · skip
        refine lv_aload_n hx hb d_Picture_findEntry_22 rfl (lv_at hl 0 rfl) ?_
        refine fg_Picture_71 X hK hw ht d_Picture_findEntry_23 ?_
        refine wd_astore_n (lv' := [(2, va_rf er), (1, .int x), (0, .ref a)]) hx hb d_Picture_findEntry_26 rfl hl (by decide) rfl (fun ls hl => ?_)
        refine lv_goto (tgt := 5) hx hb d_Picture_findEntry_27 (by decide) ?_
        exact ih er ls hm (hi.trans (if_neg c1)) (lv_sub hl [0, 1, 2] rfl)
      · skip
        refine lv_aload_n hx hb d_Picture_findEntry_17 rfl (lv_at hl 0 rfl) ?_
        refine fg_Picture_61 X hK hw ht d_Picture_findEntry_18 ?_
        exact ret _ _ _ d_Picture_findEntry_21 (by rw [hi]; exact (if_pos c1).symm)
  exact loop L la ls hL rfl (lv_sub hl [0, 2, 1] rfl)

abbrev rm_Picture_isBarredBy : Room := { frames := 0, cells := 0, slots := 0, locals := 0 }
set_option maxHeartbeats 4000000 in
set_option maxRecDepth 100000 in
theorem c_Picture_isBarredBy {l : Launch} {D : va_G} {ca : Nat → ClassId} {f : wd_M} (a : Nat) (no : Int32) (du : Int64) (sk wa an en sw : Int32) (la : Option Nat) (ha : f a = some (eP no du sk wa an en sw la)) (b : Nat) (kn ki ko ks : Int32) (kt : Option Nat) (hk : f b = some (eK kn ki ko ks kt)) (L : List TR) (hL : cx f no L la) : Met l y_Picture_isBarredBy (.code y_Picture_isBarredBy b_Picture_isBarredBy 4 (some .boolean) :: tb) rm_Picture_isBarredBy (va_Pc [.ref a, .ref b] (wd_pre D classes (ty ca) f)) (vp_Si (zb (bar kn ko wa L = true))) 0 0 (fun _ => False) := by
  refine wd_Sz (own := R_Picture) (by decide) rfl (Nat.le_of_ble_eq_true rfl) ?_
  intro p e s m args below meth c Q X hK hw ret ls hl
  have hx := X.1
  have hb := X.2.1
  have hown := X.2.2.2.1
  have hts := X.2.2.2.2
  have hl : lv_has ls 4 [(0, .ref a), (1, .ref b)] := hl
  refine lv_aload_n hx hb d_Picture_isBarredBy_0 rfl (lv_at hl 0 rfl) ?_
  refine fg_Picture_24 X hK hw ha d_Picture_isBarredBy_1 ?_
  refine wd_astore_n (lv' := [(2, va_rf la), (0, .ref a), (1, .ref b)]) hx hb d_Picture_isBarredBy_4 rfl hl (by decide) rfl (fun ls hl => ?_)
  have loop : ∀ (M : List TR) (r : Option Nat) (ls : Array Slot), cx f no M r → bar kn ko wa L = bar kn ko wa M → lv_has ls 4 [(2, va_rf r), (1, .ref b), (0, .ref a)] → W p l e rm_Picture_isBarredBy s m args below meth c s.heap [] 0 0 Q (F0 m 5 ls []) := by
    intro M
    induction M with
    | nil =>
      intro r ls hc hi hl
      have hc : r = none := hc
      subst hc
      have hl : lv_has ls 4 [(2, .null), (1, .ref b), (0, .ref a)] := hl
      refine lv_aload_nN hx hb d_Picture_isBarredBy_5 rfl (lv_at hl 0 rfl) ?_
      refine lv_ifnullN (tgt := 68) hx hb d_Picture_isBarredBy_6 (by decide) ?_
      refine lv_iconst (v := 0) hx hb d_Picture_isBarredBy_68 (by decide) ?_
      exact ret _ _ _ d_Picture_isBarredBy_69 rfl (Or.inr ⟨by rw [hi]; simp [bar], rfl⟩)
    | cons t M ih =>
      intro r ls hc hi hl
      obtain ⟨hc, er, ht, hm⟩ := hc
      subst hc
      have hl : lv_has ls 4 [(2, .ref t.1), (1, .ref b), (0, .ref a)] := hl
      refine lv_aload_n hx hb d_Picture_isBarredBy_5 rfl (lv_at hl 0 rfl) ?_
      refine lv_ifnull hx hb d_Picture_isBarredBy_6 ?_
      refine lv_aload_n hx hb d_Picture_isBarredBy_9 rfl (lv_at hl 0 rfl) ?_
      refine fg_Picture_74 X hK hw ht d_Picture_isBarredBy_10 ?_
      refine lv_aload_n hx hb d_Picture_isBarredBy_13 rfl (lv_at hl 1 rfl) ?_
      refine fg_Picture_77 X hK hw hk d_Picture_isBarredBy_14 ?_
      refine lv_icmp_ne (tgt := 33) hx hb d_Picture_isBarredBy_17 (by decide) (fun c1 => ?_) (fun c1 => ?_)
      · skip
        refine lv_iconst (v := 0) hx hb d_Picture_isBarredBy_33 (by decide) ?_
        refine lv_istore_n (lv' := [(3, .int 0), (2, .ref t.1), (1, .ref b), (0, .ref a)]) hx hb d_Picture_isBarredBy_34 rfl hl (by decide) rfl (fun ls hl => ?_)
        refine lv_aload_n hx hb d_Picture_isBarredBy_35 rfl (lv_at hl 1 rfl) ?_
        refine fg_Picture_68 X hK hw ht d_Picture_isBarredBy_36 ?_
        refine lv_aload_n hx hb d_Picture_isBarredBy_39 rfl (lv_at hl 2 rfl) ?_
        refine fg_Picture_78 X hK hw hk d_Picture_isBarredBy_40 ?_
        refine lv_icmp_eq (tgt := 58) hx hb d_Picture_isBarredBy_43 (by decide) (fun c2 => ?_) (fun c2 => ?_)
        · skip
          refine lv_iconst (v := 1) hx hb d_Picture_isBarredBy_58 (by decide) ?_
          exact ret _ _ _ d_Picture_isBarredBy_59 rfl (Or.inl ⟨hi.trans (by simp [bar, c1, c2]), rfl⟩)
        · skip
          refine lv_iload_n hx hb d_Picture_isBarredBy_46 rfl (lv_at hl 0 rfl) ?_
          refine lv_if_eq (tgt := 60) hx hb d_Picture_isBarredBy_47 (by decide) (fun c3 => ?_) (fun c3 => ?_)
          · skip
            refine lv_aload_n hx hb d_Picture_isBarredBy_60 rfl (lv_at hl 1 rfl) ?_
            refine fg_Picture_71 X hK hw ht d_Picture_isBarredBy_61 ?_
            refine wd_astore_n (lv' := [(2, va_rf er), (3, .int 0), (1, .ref b), (0, .ref a)]) hx hb d_Picture_isBarredBy_64 rfl hl (by decide) rfl (fun ls hl => ?_)
            refine lv_goto (tgt := 5) hx hb d_Picture_isBarredBy_65 (by decide) ?_
            exact ih er ls hm (hi.trans (by simp [bar, c1, c2])) (lv_sub hl [0, 2, 3] rfl)
          · exact absurd c3 (by decide)
      · skip
        refine lv_aload_n hx hb d_Picture_isBarredBy_20 rfl (lv_at hl 0 rfl) ?_
        refine fg_Picture_61 X hK hw ht d_Picture_isBarredBy_21 ?_
        refine lv_bipush (v := (-2)) hx hb d_Picture_isBarredBy_24 (by decide) ?_
        refine lv_icmp_eq (tgt := 33) hx hb d_Picture_isBarredBy_26 (by decide) (fun c4 => ?_) (fun c4 => ?_)
        · skip
          refine lv_iconst (v := 0) hx hb d_Picture_isBarredBy_33 (by decide) ?_
          refine lv_istore_n (lv' := [(3, .int 0), (2, .ref t.1), (1, .ref b), (0, .ref a)]) hx hb d_Picture_isBarredBy_34 rfl hl (by decide) rfl (fun ls hl => ?_)
          refine lv_aload_n hx hb d_Picture_isBarredBy_35 rfl (lv_at hl 1 rfl) ?_
          refine fg_Picture_68 X hK hw ht d_Picture_isBarredBy_36 ?_
          refine lv_aload_n hx hb d_Picture_isBarredBy_39 rfl (lv_at hl 2 rfl) ?_
          refine fg_Picture_78 X hK hw hk d_Picture_isBarredBy_40 ?_
          refine lv_icmp_eq (tgt := 58) hx hb d_Picture_isBarredBy_43 (by decide) (fun c5 => ?_) (fun c5 => ?_)
          · skip
            refine lv_iconst (v := 1) hx hb d_Picture_isBarredBy_58 (by decide) ?_
            exact ret _ _ _ d_Picture_isBarredBy_59 rfl (Or.inl ⟨hi.trans (by simp [bar, c1, c4, c5]), rfl⟩)
          · skip
            refine lv_iload_n hx hb d_Picture_isBarredBy_46 rfl (lv_at hl 0 rfl) ?_
            refine lv_if_eq (tgt := 60) hx hb d_Picture_isBarredBy_47 (by decide) (fun c6 => ?_) (fun c6 => ?_)
            · skip
              refine lv_aload_n hx hb d_Picture_isBarredBy_60 rfl (lv_at hl 1 rfl) ?_
              refine fg_Picture_71 X hK hw ht d_Picture_isBarredBy_61 ?_
              refine wd_astore_n (lv' := [(2, va_rf er), (3, .int 0), (1, .ref b), (0, .ref a)]) hx hb d_Picture_isBarredBy_64 rfl hl (by decide) rfl (fun ls hl => ?_)
              refine lv_goto (tgt := 5) hx hb d_Picture_isBarredBy_65 (by decide) ?_
              exact ih er ls hm (hi.trans (by simp [bar, c1, c4, c5])) (lv_sub hl [0, 2, 3] rfl)
            · exact absurd c6 (by decide)
        · skip
          refine lv_iconst (v := 1) hx hb d_Picture_isBarredBy_29 (by decide) ?_
          refine lv_goto (tgt := 34) hx hb d_Picture_isBarredBy_30 (by decide) ?_
          refine lv_istore_n (lv' := [(3, .int 1), (2, .ref t.1), (1, .ref b), (0, .ref a)]) hx hb d_Picture_isBarredBy_34 rfl hl (by decide) rfl (fun ls hl => ?_)
          refine lv_aload_n hx hb d_Picture_isBarredBy_35 rfl (lv_at hl 1 rfl) ?_
          refine fg_Picture_68 X hK hw ht d_Picture_isBarredBy_36 ?_
          refine lv_aload_n hx hb d_Picture_isBarredBy_39 rfl (lv_at hl 2 rfl) ?_
          refine fg_Picture_78 X hK hw hk d_Picture_isBarredBy_40 ?_
          refine lv_icmp_eq (tgt := 58) hx hb d_Picture_isBarredBy_43 (by decide) (fun c7 => ?_) (fun c7 => ?_)
          · skip
            refine lv_iconst (v := 1) hx hb d_Picture_isBarredBy_58 (by decide) ?_
            exact ret _ _ _ d_Picture_isBarredBy_59 rfl (Or.inl ⟨hi.trans (by simp [bar, c1, c4, c7]), rfl⟩)
          · skip
            refine lv_iload_n hx hb d_Picture_isBarredBy_46 rfl (lv_at hl 0 rfl) ?_
            refine lv_if_eq (tgt := 60) hx hb d_Picture_isBarredBy_47 (by decide) (fun c8 => ?_) (fun c8 => ?_)
            · exact absurd c8 (by decide)
            · skip
              refine lv_aload_n hx hb d_Picture_isBarredBy_50 rfl (lv_at hl 3 rfl) ?_
              refine fg_Picture_9 X hK hw ha d_Picture_isBarredBy_51 ?_
              refine lv_iconst (v := 2) hx hb d_Picture_isBarredBy_54 (by decide) ?_
              refine lv_icmp_ne (tgt := 60) hx hb d_Picture_isBarredBy_55 (by decide) (fun c9 => ?_) (fun c9 => ?_)
              · skip
                refine lv_aload_n hx hb d_Picture_isBarredBy_60 rfl (lv_at hl 1 rfl) ?_
                refine fg_Picture_71 X hK hw ht d_Picture_isBarredBy_61 ?_
                refine wd_astore_n (lv' := [(2, va_rf er), (3, .int 1), (1, .ref b), (0, .ref a)]) hx hb d_Picture_isBarredBy_64 rfl hl (by decide) rfl (fun ls hl => ?_)
                refine lv_goto (tgt := 5) hx hb d_Picture_isBarredBy_65 (by decide) ?_
                exact ih er ls hm (hi.trans (by simp [bar, c1, c4, c7, c9])) (lv_sub hl [0, 2, 3] rfl)
              · skip
                refine lv_iconst (v := 1) hx hb d_Picture_isBarredBy_58 (by decide) ?_
                exact ret _ _ _ d_Picture_isBarredBy_59 rfl (Or.inl ⟨hi.trans (by simp [bar, c1, c4, c7, c9]), rfl⟩)
  exact loop L la ls hL rfl (lv_sub hl [0, 2, 1] rfl)
end
section
abbrev rm_Picture_findState : Room := { frames := 1, cells := 0, slots := 0, locals := 22 }
set_option maxHeartbeats 4000000 in
set_option maxRecDepth 100000 in
theorem c_Picture_findState {l : Launch} {D : va_G} {ca : Nat → ClassId} {f : wd_M} (a : Nat) (no : Int32) (du : Int64) (sk wa an en sw : Int32) (la : Option Nat) (ha : f a = some (eP no du sk wa an en sw la)) (L : List TR) (hL : cx f no L la) : Met l y_Picture_findState (.code y_Picture_findState b_Picture_findState 1 (some .int) :: tb) rm_Picture_findState (va_Pc [.ref a] (wd_pre D classes (ty ca) f)) (vp_Si (fun r => r = stt en wa (tk L))) 0 0 (fun _ => False) := by
  refine wd_Si (own := R_Picture) (by decide) rfl (Nat.le_of_ble_eq_true rfl) ?_
  intro p e s m args below meth c Q X hK hw ret ls hl
  have hx := X.1
  have hb := X.2.1
  have hown := X.2.2.2.1
  have hts := X.2.2.2.2
  have hl : lv_has ls 1 [(0, .ref a)] := hl
  refine lv_aload_n hx hb d_Picture_findState_0 rfl (lv_at hl 0 rfl) ?_
  refine wd_cvi (As := []) (rest := []) X hK hw (c_Picture_hasEnded a no du sk wa an en sw la ha) (cw_Picture_38 hts rfl rfl ⟨(Nat.le_of_ble_eq_true rfl), (Nat.le_of_ble_eq_true rfl)⟩) ha rfl rfl rfl hl.1 rfl (Nat.le_of_ble_eq_true rfl) d_Picture_findState_1 ⟨(Nat.le_of_ble_eq_true rfl), (Nat.le_of_ble_eq_true rfl)⟩ (fun r hz => ?_)
  rcases hz with ⟨z1, rfl⟩ | ⟨z1, rfl⟩
  · skip
    refine lv_if_eq (tgt := 12) hx hb d_Picture_findState_4 (by decide) (fun c2 => ?_) (fun c2 => ?_)
    · exact absurd c2 (by decide)
    · skip
      refine lv_aload_n hx hb d_Picture_findState_7 rfl (lv_at hl 0 rfl) ?_
      refine fg_Picture_18 X hK hw ha d_Picture_findState_8 ?_
      exact ret _ _ _ d_Picture_findState_11 (by simp [stt, z1])
  · skip
    refine lv_if_eq (tgt := 12) hx hb d_Picture_findState_4 (by decide) (fun c3 => ?_) (fun c3 => ?_)
    · skip
      refine lv_aload_n hx hb d_Picture_findState_12 rfl (lv_at hl 0 rfl) ?_
      refine wd_cvi (As := []) (rest := []) X hK hw (c_Picture_isWanting a no du sk wa an en sw la ha L hL) (cw_Picture_42 hts rfl rfl ⟨(Nat.le_of_ble_eq_true rfl), (Nat.le_of_ble_eq_true rfl)⟩) ha rfl rfl rfl hl.1 rfl (Nat.le_of_ble_eq_true rfl) d_Picture_findState_13 ⟨(Nat.le_of_ble_eq_true rfl), (Nat.le_of_ble_eq_true rfl)⟩ (fun r hz => ?_)
      rcases hz with ⟨z4, rfl⟩ | ⟨z4, rfl⟩
      · skip
        refine lv_if_eq (tgt := 23) hx hb d_Picture_findState_16 (by decide) (fun c5 => ?_) (fun c5 => ?_)
        · exact absurd c5 (by decide)
        · skip
          refine lv_iconst (v := 0) hx hb d_Picture_findState_19 (by decide) ?_
          refine lv_goto (tgt := 24) hx hb d_Picture_findState_20 (by decide) ?_
          exact ret _ _ _ d_Picture_findState_24 (by simp [stt, Decidable.not_not.mp z1, z4])
      · skip
        refine lv_if_eq (tgt := 23) hx hb d_Picture_findState_16 (by decide) (fun c6 => ?_) (fun c6 => ?_)
        · skip
          refine lv_iconst (v := 1) hx hb d_Picture_findState_23 (by decide) ?_
          exact ret _ _ _ d_Picture_findState_24 (by simp [stt, Decidable.not_not.mp z1, z4])
        · exact absurd c6 (by decide)
    · exact absurd c3 (by decide)

abbrev rm_Picture_isFreeFor : Room := { frames := 1, cells := 0, slots := 0, locals := 23 }
set_option maxHeartbeats 4000000 in
set_option maxRecDepth 100000 in
theorem c_Picture_isFreeFor {l : Launch} {D : va_G} {ca : Nat → ClassId} {f : wd_M} (a : Nat) (no : Int32) (du : Int64) (sk wa an en sw : Int32) (la : Option Nat) (ha : f a = some (eP no du sk wa an en sw la)) (b : Nat) (kn ki ko ks : Int32) (kt : Option Nat) (hk : f b = some (eK kn ki ko ks kt)) (L : List TR) (hL : cx f no L la) : Met l y_Picture_isFreeFor (.code y_Picture_isFreeFor b_Picture_isFreeFor 2 (some .boolean) :: tb) rm_Picture_isFreeFor (va_Pc [.ref a, .ref b] (wd_pre D classes (ty ca) f)) (vp_Si (zb (fre en sk wa L kn ko ks = true))) 0 0 (fun _ => False) := by
  refine wd_Sz (own := R_Picture) (by decide) rfl (Nat.le_of_ble_eq_true rfl) ?_
  intro p e s m args below meth c Q X hK hw ret ls hl
  have hx := X.1
  have hb := X.2.1
  have hown := X.2.2.2.1
  have hts := X.2.2.2.2
  have hl : lv_has ls 2 [(0, .ref a), (1, .ref b)] := hl
  refine lv_aload_n hx hb d_Picture_isFreeFor_0 rfl (lv_at hl 0 rfl) ?_
  refine wd_cvi (As := []) (rest := []) X hK hw (c_Picture_hasEnded a no du sk wa an en sw la ha) (cw_Picture_38 hts rfl rfl ⟨(Nat.le_of_ble_eq_true rfl), (Nat.le_of_ble_eq_true rfl)⟩) ha rfl rfl rfl hl.1 rfl (Nat.le_of_ble_eq_true rfl) d_Picture_isFreeFor_1 ⟨(Nat.le_of_ble_eq_true rfl), (Nat.le_of_ble_eq_true rfl)⟩ (fun r hz => ?_)
  rcases hz with ⟨z1, rfl⟩ | ⟨z1, rfl⟩
  · skip
    refine lv_if_ne (tgt := 37) hx hb d_Picture_isFreeFor_4 (by decide) (fun c2 => ?_) (fun c2 => ?_)
    · skip
      refine lv_iconst (v := 0) hx hb d_Picture_isFreeFor_37 (by decide) ?_
      exact ret _ _ _ d_Picture_isFreeFor_38 rfl (Or.inr ⟨by simp [fre, z1], rfl⟩)
    · exact absurd c2 (by decide)
  · skip
    refine lv_if_ne (tgt := 37) hx hb d_Picture_isFreeFor_4 (by decide) (fun c3 => ?_) (fun c3 => ?_)
    · exact absurd c3 (by decide)
    · skip
      refine lv_aload_n hx hb d_Picture_isFreeFor_7 rfl (lv_at hl 0 rfl) ?_
      refine fg_Picture_35 X hK hw ha d_Picture_isFreeFor_8 ?_
      refine lv_aload_n hx hb d_Picture_isFreeFor_11 rfl (lv_at hl 1 rfl) ?_
      refine fg_Picture_45 X hK hw hk d_Picture_isFreeFor_12 ?_
      refine lv_icmp_gt (tgt := 37) hx hb d_Picture_isFreeFor_15 (by decide) (fun c4 => ?_) (fun c4 => ?_)
      · skip
        refine lv_iconst (v := 0) hx hb d_Picture_isFreeFor_37 (by decide) ?_
        exact ret _ _ _ d_Picture_isFreeFor_38 rfl (Or.inr ⟨by simp [fre, Decidable.not_not.mp z1, c4], rfl⟩)
      · skip
        refine lv_aload_n hx hb d_Picture_isFreeFor_18 rfl (lv_at hl 0 rfl) ?_
        refine wd_cvi (As := []) (rest := []) X hK hw (c_Picture_isWanting a no du sk wa an en sw la ha L hL) (cw_Picture_42 hts rfl rfl ⟨(Nat.le_of_ble_eq_true rfl), (Nat.le_of_ble_eq_true rfl)⟩) ha rfl rfl rfl hl.1 rfl (Nat.le_of_ble_eq_true rfl) d_Picture_isFreeFor_19 ⟨(Nat.le_of_ble_eq_true rfl), (Nat.le_of_ble_eq_true rfl)⟩ (fun r hz => ?_)
        rcases hz with ⟨z5, rfl⟩ | ⟨z5, rfl⟩
        · skip
          refine lv_if_eq (tgt := 37) hx hb d_Picture_isFreeFor_22 (by decide) (fun c6 => ?_) (fun c6 => ?_)
          · exact absurd c6 (by decide)
          · skip
            refine lv_aload_n hx hb d_Picture_isFreeFor_25 rfl (lv_at hl 0 rfl) ?_
            refine lv_aload_n hx hb d_Picture_isFreeFor_26 rfl (lv_at hl 1 rfl) ?_
            refine wd_cvi (As := [.ref b]) (rest := []) X hK hw (c_Picture_isBarredBy a no du sk wa an en sw la ha b kn ki ko ks kt hk L hL) (cw_Picture_48 hts rfl rfl ⟨(Nat.le_of_ble_eq_true rfl), (Nat.le_of_ble_eq_true rfl)⟩) ha rfl rfl rfl hl.1 rfl (Nat.le_of_ble_eq_true rfl) d_Picture_isFreeFor_27 ⟨(Nat.le_of_ble_eq_true rfl), (Nat.le_of_ble_eq_true rfl)⟩ (fun r hz => ?_)
            rcases hz with ⟨z7, rfl⟩ | ⟨z7, rfl⟩
            · skip
              refine lv_if_ne (tgt := 37) hx hb d_Picture_isFreeFor_30 (by decide) (fun c8 => ?_) (fun c8 => ?_)
              · skip
                refine lv_iconst (v := 0) hx hb d_Picture_isFreeFor_37 (by decide) ?_
                exact ret _ _ _ d_Picture_isFreeFor_38 rfl (Or.inr ⟨by simp [fre, Decidable.not_not.mp z1, c4, z5, z7], rfl⟩)
              · exact absurd c8 (by decide)
            · skip
              refine lv_if_ne (tgt := 37) hx hb d_Picture_isFreeFor_30 (by decide) (fun c9 => ?_) (fun c9 => ?_)
              · exact absurd c9 (by decide)
              · skip
                refine lv_iconst (v := 1) hx hb d_Picture_isFreeFor_33 (by decide) ?_
                refine lv_goto (tgt := 38) hx hb d_Picture_isFreeFor_34 (by decide) ?_
                exact ret _ _ _ d_Picture_isFreeFor_38 rfl (Or.inl ⟨by simp [fre, Decidable.not_not.mp z1, c4, z5, z7], rfl⟩)
        · skip
          refine lv_if_eq (tgt := 37) hx hb d_Picture_isFreeFor_22 (by decide) (fun c10 => ?_) (fun c10 => ?_)
          · skip
            refine lv_iconst (v := 0) hx hb d_Picture_isFreeFor_37 (by decide) ?_
            exact ret _ _ _ d_Picture_isFreeFor_38 rfl (Or.inr ⟨by simp [fre, Decidable.not_not.mp z1, c4, z5], rfl⟩)
          · exact absurd c10 (by decide)

abbrev rm_Clerk_init : Room := { frames := 1, cells := 0, slots := 0, locals := 12 }
set_option maxHeartbeats 4000000 in
set_option maxRecDepth 100000 in
theorem c_Clerk_init {l : Launch} {D : va_G} {ca : Nat → ClassId} {f : wd_M} {sz : Nat} (q : Nat) (hq : f q = some (eK 0 0 0 0 none)) (n : Int32) : Met l y_Clerk_init (.code y_Clerk_init b_Clerk_init 2 none :: tb) rm_Clerk_init (va_Pc [.ref q, .int n] (wd_preZ D classes (ty ca) f sz)) (va_Qv (fun f' => f' = wd_up f q (eK n 0 0 0 none)) (wd_B D classes f sz) (wd_A f sz)) 0 0 (wd_A f sz) := by
  refine wd_Qv (own := R_Clerk) (by decide) rfl (Nat.le_of_ble_eq_true rfl) ?_
  intro p e s m args below meth c Q X hK hnm hw ret ls hl
  have hx := X.1
  have hb := X.2.1
  have hown := X.2.2.2.1
  have hts := X.2.2.2.2
  have hl : lv_has ls 2 [(0, .ref q), (1, .int n)] := hl
  refine lv_aload_n hx hb d_Clerk_init_0 rfl (lv_at hl 0 rfl) ?_
  refine wd_obj X ml_Clerk_1 im_obj cd_obj hl.1 d_Clerk_init_1 (Nat.le_of_ble_eq_true rfl) (Nat.le_of_ble_eq_true rfl) ?_
  refine lv_aload_n hx hb d_Clerk_init_4 rfl (lv_at hl 0 rfl) ?_
  refine lv_iconst (v := 0) hx hb d_Clerk_init_5 (by decide) ?_
  refine fp_Clerk_7 X hK hw hq rfl rfl d_Clerk_init_6 (fun f1 H locs ef1 hw => ?_)
  have hq : f1 q = some (eK 0 0 0 0 none) := by rw [ef1]; exact wd_us
  refine lv_aload_n hx hb d_Clerk_init_9 rfl (lv_at hl 0 rfl) ?_
  refine lv_iconst (v := 0) hx hb d_Clerk_init_10 (by decide) ?_
  refine fp_Clerk_13 X hK hw hq rfl rfl d_Clerk_init_11 (fun f2 H locs ef2 hw => ?_)
  have hq : f2 q = some (eK 0 0 0 0 none) := by rw [ef2]; exact wd_us
  refine lv_aload_n hx hb d_Clerk_init_14 rfl (lv_at hl 0 rfl) ?_
  refine lv_iconst (v := 0) hx hb d_Clerk_init_15 (by decide) ?_
  refine fp_Clerk_17 X hK hw hq rfl rfl d_Clerk_init_16 (fun f3 H locs ef3 hw => ?_)
  have hq : f3 q = some (eK 0 0 0 0 none) := by rw [ef3]; exact wd_us
  refine lv_aload_n hx hb d_Clerk_init_19 rfl (lv_at hl 0 rfl) ?_
  refine lv_null hx hb d_Clerk_init_20 ?_
  refine fp_Clerk_20 X hK hw hq rfl rfl d_Clerk_init_21 (fun f4 H locs ef4 hw => ?_)
  have hq : f4 q = some (eK 0 0 0 0 none) := by rw [ef4]; exact wd_us
  refine lv_aload_n hx hb d_Clerk_init_24 rfl (lv_at hl 0 rfl) ?_
  refine lv_iload_n hx hb d_Clerk_init_25 rfl (lv_at hl 1 rfl) ?_
  refine fp_Clerk_24 X hK hw hnm hq rfl rfl d_Clerk_init_26 (fun f5 H locs ef5 hw => ?_)
  have hq : f5 q = some (eK n 0 0 0 none) := by rw [ef5]; exact wd_us
  exact ret _ _ _ _ _ d_Clerk_init_29 hw (by rw [ef5, ef4, ef3, ef2, ef1]; (try simp only [wd_uu]); try rfl)

abbrev rm_Turn_init : Room := { frames := 1, cells := 0, slots := 0, locals := 12 }
set_option maxHeartbeats 4000000 in
set_option maxRecDepth 100000 in
theorem c_Turn_init {l : Launch} {D : va_G} {ca : Nat → ClassId} {f : wd_M} {sz : Nat} (q : Nat) (hq : f q = some (eT 0 0 0 none 0)) (b : Nat) (kn ki ko ks : Int32) (kt : Option Nat) (hk : f b = some (eK kn ki ko ks kt)) (pn : Int32) (ea : Option Nat) : Met l y_Turn_init (.code y_Turn_init b_Turn_init 4 none :: tb) rm_Turn_init (va_Pc [.ref q, .int pn, .ref b, va_rf ea] (wd_preZ D classes (ty ca) f sz)) (va_Qv (fun f' => f' = wd_up f q (eT pn kn ko ea (-1))) (wd_B D classes f sz) (wd_A f sz)) 0 0 (wd_A f sz) := by
  refine wd_Qv (own := R_Turn) (by decide) rfl (by cases ea <;> exact Nat.le_of_ble_eq_true rfl) ?_
  intro p e s m args below meth c Q X hK hnm hw ret ls hl
  have hx := X.1
  have hb := X.2.1
  have hown := X.2.2.2.1
  have hts := X.2.2.2.2
  have hl : lv_has ls 4 [(0, .ref q), (1, .int pn), (2, .ref b), (3, va_rf ea)] := hl
  refine lv_aload_n hx hb d_Turn_init_0 rfl (lv_at hl 0 rfl) ?_
  refine wd_obj X ml_Turn_3 im_obj cd_obj hl.1 d_Turn_init_1 (Nat.le_of_ble_eq_true rfl) (Nat.le_of_ble_eq_true rfl) ?_
  refine lv_aload_n hx hb d_Turn_init_4 rfl (lv_at hl 0 rfl) ?_
  refine lv_iconst (v := (-1)) hx hb d_Turn_init_5 (by decide) ?_
  refine fp_Turn_9 X hK hw hq rfl rfl d_Turn_init_6 (fun f1 H locs ef1 hw => ?_)
  have hk : f1 b = some (eK kn ki ko ks kt) := by rw [ef1, wd_un (wd_ne hk hq (by decide))]; exact hk
  have hq : f1 q = some (eT 0 0 0 none (-1)) := by rw [ef1]; exact wd_us
  refine lv_aload_n hx hb d_Turn_init_9 rfl (lv_at hl 0 rfl) ?_
  refine lv_iload_n hx hb d_Turn_init_10 rfl (lv_at hl 1 rfl) ?_
  refine fp_Turn_15 X hK hw hnm hq rfl rfl d_Turn_init_11 (fun f2 H locs ef2 hw => ?_)
  have hk : f2 b = some (eK kn ki ko ks kt) := by rw [ef2, wd_un (wd_ne hk hq (by decide))]; exact hk
  have hq : f2 q = some (eT pn 0 0 none (-1)) := by rw [ef2]; exact wd_us
  refine lv_aload_n hx hb d_Turn_init_14 rfl (lv_at hl 0 rfl) ?_
  refine lv_aload_n hx hb d_Turn_init_15 rfl (lv_at hl 2 rfl) ?_
  refine fg_Turn_18 X hK hw hk d_Turn_init_16 ?_
  refine fp_Turn_23 X hK hw hnm hq rfl rfl d_Turn_init_19 (fun f3 H locs ef3 hw => ?_)
  have hk : f3 b = some (eK kn ki ko ks kt) := by rw [ef3, wd_un (wd_ne hk hq (by decide))]; exact hk
  have hq : f3 q = some (eT pn kn 0 none (-1)) := by rw [ef3]; exact wd_us
  refine lv_aload_n hx hb d_Turn_init_22 rfl (lv_at hl 0 rfl) ?_
  refine lv_aload_n hx hb d_Turn_init_23 rfl (lv_at hl 2 rfl) ?_
  refine fg_Turn_26 X hK hw hk d_Turn_init_24 ?_
  refine fp_Turn_29 X hK hw hnm hq rfl rfl d_Turn_init_27 (fun f4 H locs ef4 hw => ?_)
  have hk : f4 b = some (eK kn ki ko ks kt) := by rw [ef4, wd_un (wd_ne hk hq (by decide))]; exact hk
  have hq : f4 q = some (eT pn kn ko none (-1)) := by rw [ef4]; exact wd_us
  refine lv_aload_n hx hb d_Turn_init_30 rfl (lv_at hl 0 rfl) ?_
  refine wd_aload_n hx hb d_Turn_init_31 rfl (lv_at hl 3 rfl) ?_
  refine fp_Turn_30 X hK hw hnm hq (wd_nar _) (wd_fit _) d_Turn_init_32 (fun f5 H locs ef5 hw => ?_)
  have hk : f5 b = some (eK kn ki ko ks kt) := by rw [ef5, wd_un (wd_ne hk hq (by decide))]; exact hk
  have hq : f5 q = some (eT pn kn ko ea (-1)) := by rw [ef5]; exact wd_us
  exact ret _ _ _ _ _ d_Turn_init_35 hw (by rw [ef5, ef4, ef3, ef2, ef1]; (try simp only [wd_uu]); try rfl)

abbrev rm_Picture_init : Room := { frames := 1, cells := 0, slots := 0, locals := 12 }
set_option maxHeartbeats 4000000 in
set_option maxRecDepth 100000 in
theorem c_Picture_init {l : Launch} {D : va_G} {ca : Nat → ClassId} {f : wd_M} {sz : Nat} (q : Nat) (hq : f q = some (eP 0 0 0 0 0 0 0 none)) (no : Int32) (du : Int64) (sk : Int32) : Met l y_Picture_init (.code y_Picture_init b_Picture_init 5 none :: tb) rm_Picture_init (va_Pc [.ref q, .int no, .long du, .int sk] (wd_preZ D classes (ty ca) f sz)) (va_Qv (fun f' => f' = wd_up f q (eP no du sk 2 0 0 0 none)) (wd_B D classes f sz) (wd_A f sz)) 0 0 (wd_A f sz) := by
  refine wd_Qv (own := R_Picture) (by decide) rfl (Nat.le_of_ble_eq_true rfl) ?_
  intro p e s m args below meth c Q X hK hnm hw ret ls hl
  have hx := X.1
  have hb := X.2.1
  have hown := X.2.2.2.1
  have hts := X.2.2.2.2
  have hl : lv_has ls 5 [(0, .ref q), (1, .int no), (2, .long du), (4, .int sk)] := hl
  refine lv_aload_n hx hb d_Picture_init_0 rfl (lv_at hl 0 rfl) ?_
  refine wd_obj X ml_Picture_3 im_obj cd_obj hl.1 d_Picture_init_1 (Nat.le_of_ble_eq_true rfl) (Nat.le_of_ble_eq_true rfl) ?_
  refine lv_aload_n hx hb d_Picture_init_4 rfl (lv_at hl 0 rfl) ?_
  refine lv_iconst (v := 2) hx hb d_Picture_init_5 (by decide) ?_
  refine fp_Picture_9 X hK hw hq rfl rfl d_Picture_init_6 (fun f1 H locs ef1 hw => ?_)
  have hq : f1 q = some (eP 0 0 0 2 0 0 0 none) := by rw [ef1]; exact wd_us
  refine lv_aload_n hx hb d_Picture_init_9 rfl (lv_at hl 0 rfl) ?_
  refine lv_iconst (v := 0) hx hb d_Picture_init_10 (by decide) ?_
  refine fp_Picture_15 X hK hw hq rfl rfl d_Picture_init_11 (fun f2 H locs ef2 hw => ?_)
  have hq : f2 q = some (eP 0 0 0 2 0 0 0 none) := by rw [ef2]; exact wd_us
  refine lv_aload_n hx hb d_Picture_init_14 rfl (lv_at hl 0 rfl) ?_
  refine lv_iconst (v := 0) hx hb d_Picture_init_15 (by decide) ?_
  refine fp_Picture_18 X hK hw hq rfl rfl d_Picture_init_16 (fun f3 H locs ef3 hw => ?_)
  have hq : f3 q = some (eP 0 0 0 2 0 0 0 none) := by rw [ef3]; exact wd_us
  refine lv_aload_n hx hb d_Picture_init_19 rfl (lv_at hl 0 rfl) ?_
  refine lv_iconst (v := 0) hx hb d_Picture_init_20 (by decide) ?_
  refine fp_Picture_21 X hK hw hq rfl rfl d_Picture_init_21 (fun f4 H locs ef4 hw => ?_)
  have hq : f4 q = some (eP 0 0 0 2 0 0 0 none) := by rw [ef4]; exact wd_us
  refine lv_aload_n hx hb d_Picture_init_24 rfl (lv_at hl 0 rfl) ?_
  refine lv_null hx hb d_Picture_init_25 ?_
  refine fp_Picture_24 X hK hw hq rfl rfl d_Picture_init_26 (fun f5 H locs ef5 hw => ?_)
  have hq : f5 q = some (eP 0 0 0 2 0 0 0 none) := by rw [ef5]; exact wd_us
  refine lv_aload_n hx hb d_Picture_init_29 rfl (lv_at hl 0 rfl) ?_
  refine lv_iload_n hx hb d_Picture_init_30 rfl (lv_at hl 1 rfl) ?_
  refine fp_Picture_28 X hK hw hnm hq rfl rfl d_Picture_init_31 (fun f6 H locs ef6 hw => ?_)
  have hq : f6 q = some (eP no 0 0 2 0 0 0 none) := by rw [ef6]; exact wd_us
  refine lv_aload_n hx hb d_Picture_init_34 rfl (lv_at hl 0 rfl) ?_
  refine lv_lload_n hx hb d_Picture_init_35 rfl (lv_at hl 2 rfl) ?_
  refine fp_Picture_31 X hK hw hnm hq rfl rfl d_Picture_init_36 (fun f7 H locs ef7 hw => ?_)
  have hq : f7 q = some (eP no du 0 2 0 0 0 none) := by rw [ef7]; exact wd_us
  refine lv_aload_n hx hb d_Picture_init_39 rfl (lv_at hl 0 rfl) ?_
  refine lv_iload hx hb d_Picture_init_40 (lv_at hl 3 rfl) ?_
  refine fp_Picture_35 X hK hw hnm hq rfl rfl d_Picture_init_42 (fun f8 H locs ef8 hw => ?_)
  have hq : f8 q = some (eP no du sk 2 0 0 0 none) := by rw [ef8]; exact wd_us
  exact ret _ _ _ _ _ d_Picture_init_45 hw (by rw [ef8, ef7, ef6, ef5, ef4, ef3, ef2, ef1]; (try simp only [wd_uu]); try rfl)

abbrev rm_Picture_addTurn : Room := { frames := 2, cells := 1, slots := 5, locals := 35 }
set_option maxHeartbeats 4000000 in
set_option maxRecDepth 100000 in
theorem c_Picture_addTurn {l : Launch} {D : va_G} {ca : Nat → ClassId} {f : wd_M} {sz : Nat} (a : Nat) (no : Int32) (du : Int64) (sk wa an en sw : Int32) (la : Option Nat) (ha : f a = some (eP no du sk wa an en sw la)) (b : Nat) (kn ki ko ks : Int32) (kt : Option Nat) (hk : f b = some (eK kn ki ko ks kt)) : Met l y_Picture_addTurn (.code y_Picture_addTurn b_Picture_addTurn 2 (some (.object "ClerkRows$Turn")) :: tb) rm_Picture_addTurn (va_Pc [.ref a, .ref b] (wd_preZ D classes (ty ca) f sz)) (va_Qq (fun r f' => ∃ q : Nat, r = some q ∧ f q = none ∧ f' = wd_up (wd_up f q (eT no kn ko la (-1))) a (eP no du sk wa an en sw (some q))) (wd_B D classes f sz) (wd_A f sz)) 1 5 (wd_A f sz) := by
  refine wd_Qq (own := R_Picture) (by decide) rfl (Nat.le_of_ble_eq_true rfl) ?_
  intro p e s m args below meth c Q X hK hw ret ls hl
  have hx := X.1
  have hb := X.2.1
  have hown := X.2.2.2.1
  have hts := X.2.2.2.2
  have hl : lv_has ls 2 [(0, .ref a), (1, .ref b)] := hl
  refine lv_aload_n hx hb d_Picture_addTurn_0 rfl (lv_at hl 0 rfl) ?_
  refine nw_Picture_52 X hK hw (Nat.le_of_ble_eq_true rfl) (Nat.le_of_ble_eq_true rfl) d_Picture_addTurn_1 (fun q1 f2 H eq1 hq1 ef2 hw => ?_)
  have ha : f2 a = some (eP no du sk wa an en sw la) := by rw [ef2, wd_un (wd_neF ha hq1)]; exact ha
  have hk : f2 b = some (eK kn ki ko ks kt) := by rw [ef2, wd_un (wd_neF hk hq1)]; exact hk
  have h_q1 : f2 q1 = some (eT 0 0 0 none 0) := by rw [ef2]; exact wd_us
  refine lv_dup hx hb d_Picture_addTurn_4 rfl ?_
  refine lv_aload_n hx hb d_Picture_addTurn_5 rfl (lv_at hl 0 rfl) ?_
  refine fg_Picture_28 X hK hw ha d_Picture_addTurn_6 ?_
  refine lv_aload_n hx hb d_Picture_addTurn_9 rfl (lv_at hl 1 rfl) ?_
  refine lv_aload_n hx hb d_Picture_addTurn_10 rfl (lv_at hl 0 rfl) ?_
  refine fg_Picture_24 X hK hw ha d_Picture_addTurn_11 ?_
  refine wd_mI (As := [.int no, .ref b, va_rf la]) (rest := [.ref q1, .ref a]) X hK hw (c_Turn_init q1 h_q1 b kn ki ko ks kt hk no la) (cw_Picture_54 hts rfl rfl ⟨(Nat.le_of_ble_eq_true rfl), (Nat.le_of_ble_eq_true rfl)⟩) rfl hl.1 rfl (Nat.le_of_ble_eq_true rfl) d_Picture_addTurn_14 ⟨(Nat.le_of_ble_eq_true rfl), (Nat.le_of_ble_eq_true rfl)⟩ (fun f3 H locs ef3 hw => ?_)
  have ha : f3 a = some (eP no du sk wa an en sw la) := by rw [ef3, wd_un (wd_ne ha h_q1 (by decide))]; exact ha
  have hk : f3 b = some (eK kn ki ko ks kt) := by rw [ef3, wd_un (wd_ne hk h_q1 (by decide))]; exact hk
  have h_q1 : f3 q1 = some (eT no kn ko la (-1)) := by rw [ef3]; exact wd_us
  refine fp_Picture_24 X hK hw ha rfl rfl d_Picture_addTurn_17 (fun f4 H locs ef4 hw => ?_)
  have hk : f4 b = some (eK kn ki ko ks kt) := by rw [ef4, wd_un (wd_ne hk ha (by decide))]; exact hk
  have h_q1 : f4 q1 = some (eT no kn ko la (-1)) := by rw [ef4, wd_un (wd_ne h_q1 ha (by decide))]; exact h_q1
  have ha : f4 a = some (eP no du sk wa an en sw (some q1)) := by rw [ef4]; exact wd_us
  refine lv_aload_n hx hb d_Picture_addTurn_20 rfl (lv_at hl 0 rfl) ?_
  refine fg_Picture_24 X hK hw ha d_Picture_addTurn_21 ?_
  exact ret _ _ (some q1) _ _ _ _ d_Picture_addTurn_24 rfl hw ⟨q1, rfl, hq1, by rw [ef4, ef3, ef2]; (try simp only [wd_uu]); rfl⟩

abbrev rm_Picture_takeEntry : Room := { frames := 1, cells := 0, slots := 0, locals := 22 }
set_option maxHeartbeats 4000000 in
set_option maxRecDepth 100000 in
theorem c_Picture_takeEntry {l : Launch} {D : va_G} {ca : Nat → ClassId} {f : wd_M} {sz : Nat} (a : Nat) (no : Int32) (du : Int64) (sk wa an en sw : Int32) (la : Option Nat) (ha : f a = some (eP no du sk wa an en sw la)) (L : List TR) (hL : cx f no L la) (tq : Nat) (ck to : Int32) (ea : Option Nat) (te : Int32) (ht : f tq = some (eT no ck to ea te)) (x : Int32) : Met l y_Picture_takeEntry (.code y_Picture_takeEntry b_Picture_takeEntry 4 none :: tb) rm_Picture_takeEntry (va_Pc [.ref a, .ref tq, .int x] (wd_preZ D classes (ty ca) f sz)) (va_Qv (fun f' => f' = wd_up (wd_up f tq (eT no ck to ea x)) a (eP no du sk (tE wa (an + 1) en sw x (hasE x L)).1 (an + 1) (tE wa (an + 1) en sw x (hasE x L)).2.1 (tE wa (an + 1) en sw x (hasE x L)).2.2 la)) (wd_B D classes f sz) (wd_A f sz)) 0 0 (wd_A f sz) := by
  refine wd_Qv (own := R_Picture) (by decide) rfl (Nat.le_of_ble_eq_true rfl) ?_
  intro p e s m args below meth c Q X hK hnm hw ret ls hl
  have hx := X.1
  have hb := X.2.1
  have hown := X.2.2.2.1
  have hts := X.2.2.2.2
  have hl : lv_has ls 4 [(0, .ref a), (1, .ref tq), (2, .int x)] := hl
  refine lv_aload_n hx hb d_Picture_takeEntry_0 rfl (lv_at hl 0 rfl) ?_
  refine lv_iload_n hx hb d_Picture_takeEntry_1 rfl (lv_at hl 2 rfl) ?_
  refine wd_cvi (As := [.int x]) (rest := []) X hK hw (c_Picture_hasEntry a no du sk wa an en sw la ha L hL x) (cw_Picture_57 hts rfl rfl ⟨(Nat.le_of_ble_eq_true rfl), (Nat.le_of_ble_eq_true rfl)⟩) ha rfl rfl rfl hl.1 rfl (Nat.le_of_ble_eq_true rfl) d_Picture_takeEntry_2 ⟨(Nat.le_of_ble_eq_true rfl), (Nat.le_of_ble_eq_true rfl)⟩ (fun r hz => ?_)
  rcases hz with ⟨z1, rfl⟩ | ⟨z1, rfl⟩
  · skip
    refine lv_istore_n (lv' := [(3, .int 1), (0, .ref a), (1, .ref tq), (2, .int x)]) hx hb d_Picture_takeEntry_5 rfl hl (by decide) rfl (fun ls hl => ?_)
    refine lv_aload_n hx hb d_Picture_takeEntry_6 rfl (lv_at hl 2 rfl) ?_
    refine lv_iload_n hx hb d_Picture_takeEntry_7 rfl (lv_at hl 3 rfl) ?_
    refine fp_Picture_61 X hK hw ht rfl rfl d_Picture_takeEntry_8 (fun f2 H locs ef2 hw => ?_)
    have ha : f2 a = some (eP no du sk wa an en sw la) := by rw [ef2, wd_un (wd_ne ha ht (by decide))]; exact ha
    have ht : f2 tq = some (eT no ck to ea x) := by rw [ef2]; exact wd_us
    refine lv_aload_n hx hb d_Picture_takeEntry_11 rfl (lv_at hl 1 rfl) ?_
    refine lv_dup hx hb d_Picture_takeEntry_12 rfl ?_
    refine fg_Picture_15 X hK hw ha d_Picture_takeEntry_13 ?_
    refine lv_iconst (v := 1) hx hb d_Picture_takeEntry_16 (by decide) ?_
    refine lv_iadd hx hb d_Picture_takeEntry_17 ?_
    refine fp_Picture_15 X hK hw ha rfl rfl d_Picture_takeEntry_18 (fun f3 H locs ef3 hw => ?_)
    have ht : f3 tq = some (eT no ck to ea x) := by rw [ef3, wd_un (wd_ne ht ha (by decide))]; exact ht
    have ha : f3 a = some (eP no du sk wa (an + 1) en sw la) := by rw [ef3]; exact wd_us
    refine lv_aload_n hx hb d_Picture_takeEntry_21 rfl (lv_at hl 1 rfl) ?_
    refine wd_cvi (As := []) (rest := []) X hK hw (c_Picture_hasEnded a no du sk wa (an + 1) en sw la ha) (cw_Picture_38 hts rfl rfl ⟨(Nat.le_of_ble_eq_true rfl), (Nat.le_of_ble_eq_true rfl)⟩) ha rfl rfl rfl hl.1 rfl (Nat.le_of_ble_eq_true rfl) d_Picture_takeEntry_22 ⟨(Nat.le_of_ble_eq_true rfl), (Nat.le_of_ble_eq_true rfl)⟩ (fun r hz => ?_)
    rcases hz with ⟨z4, rfl⟩ | ⟨z4, rfl⟩
    · skip
      refine lv_if_eq (tgt := 29) hx hb d_Picture_takeEntry_25 (by decide) (fun c5 => ?_) (fun c5 => ?_)
      · exact absurd c5 (by decide)
      · skip
        exact ret _ _ _ _ _ d_Picture_takeEntry_28 hw (by rw [ef3, ef2]; (try simp only [wd_uu]); simp [tE, z1, z4])
    · skip
      refine lv_if_eq (tgt := 29) hx hb d_Picture_takeEntry_25 (by decide) (fun c6 => ?_) (fun c6 => ?_)
      · skip
        refine lv_iload_n hx hb d_Picture_takeEntry_29 rfl (lv_at hl 0 rfl) ?_
        refine lv_if_eq (tgt := 41) hx hb d_Picture_takeEntry_30 (by decide) (fun c7 => ?_) (fun c7 => ?_)
        · exact absurd c7 (by decide)
        · skip
          refine lv_aload_n hx hb d_Picture_takeEntry_33 rfl (lv_at hl 1 rfl) ?_
          refine lv_iload_n hx hb d_Picture_takeEntry_34 rfl (lv_at hl 3 rfl) ?_
          refine wd_mvv (As := [.int x]) (rest := []) X hK hw (c_Picture_endAlike a no du sk wa (an + 1) en sw la ha x) (cw_Picture_64 hts rfl rfl ⟨(Nat.le_of_ble_eq_true rfl), (Nat.le_of_ble_eq_true rfl)⟩) ha rfl rfl rfl hl.1 rfl (Nat.le_of_ble_eq_true rfl) d_Picture_takeEntry_35 ⟨(Nat.le_of_ble_eq_true rfl), (Nat.le_of_ble_eq_true rfl)⟩ (fun f8 H locs ef8 hw => ?_)
          have ht : f8 tq = some (eT no ck to ea x) := by rw [ef8, wd_un (wd_ne ht ha (by decide))]; exact ht
          have ha : f8 a = some (eP no du sk wa (an + 1) (if x = 0 then 3 else 2) (if x = 0 then sw else x) la) := by rw [ef8]; exact wd_us
          refine lv_goto (tgt := 70) hx hb d_Picture_takeEntry_38 (by decide) ?_
          exact ret _ _ _ _ _ d_Picture_takeEntry_70 hw (by rw [ef8, ef3, ef2]; (try simp only [wd_uu]); simp [tE, z1, Decidable.not_not.mp z4])
      · exact absurd c6 (by decide)
  · skip
    refine lv_istore_n (lv' := [(3, .int 0), (0, .ref a), (1, .ref tq), (2, .int x)]) hx hb d_Picture_takeEntry_5 rfl hl (by decide) rfl (fun ls hl => ?_)
    refine lv_aload_n hx hb d_Picture_takeEntry_6 rfl (lv_at hl 2 rfl) ?_
    refine lv_iload_n hx hb d_Picture_takeEntry_7 rfl (lv_at hl 3 rfl) ?_
    refine fp_Picture_61 X hK hw ht rfl rfl d_Picture_takeEntry_8 (fun f9 H locs ef9 hw => ?_)
    have ha : f9 a = some (eP no du sk wa an en sw la) := by rw [ef9, wd_un (wd_ne ha ht (by decide))]; exact ha
    have ht : f9 tq = some (eT no ck to ea x) := by rw [ef9]; exact wd_us
    refine lv_aload_n hx hb d_Picture_takeEntry_11 rfl (lv_at hl 1 rfl) ?_
    refine lv_dup hx hb d_Picture_takeEntry_12 rfl ?_
    refine fg_Picture_15 X hK hw ha d_Picture_takeEntry_13 ?_
    refine lv_iconst (v := 1) hx hb d_Picture_takeEntry_16 (by decide) ?_
    refine lv_iadd hx hb d_Picture_takeEntry_17 ?_
    refine fp_Picture_15 X hK hw ha rfl rfl d_Picture_takeEntry_18 (fun f10 H locs ef10 hw => ?_)
    have ht : f10 tq = some (eT no ck to ea x) := by rw [ef10, wd_un (wd_ne ht ha (by decide))]; exact ht
    have ha : f10 a = some (eP no du sk wa (an + 1) en sw la) := by rw [ef10]; exact wd_us
    refine lv_aload_n hx hb d_Picture_takeEntry_21 rfl (lv_at hl 1 rfl) ?_
    refine wd_cvi (As := []) (rest := []) X hK hw (c_Picture_hasEnded a no du sk wa (an + 1) en sw la ha) (cw_Picture_38 hts rfl rfl ⟨(Nat.le_of_ble_eq_true rfl), (Nat.le_of_ble_eq_true rfl)⟩) ha rfl rfl rfl hl.1 rfl (Nat.le_of_ble_eq_true rfl) d_Picture_takeEntry_22 ⟨(Nat.le_of_ble_eq_true rfl), (Nat.le_of_ble_eq_true rfl)⟩ (fun r hz => ?_)
    rcases hz with ⟨z11, rfl⟩ | ⟨z11, rfl⟩
    · skip
      refine lv_if_eq (tgt := 29) hx hb d_Picture_takeEntry_25 (by decide) (fun c12 => ?_) (fun c12 => ?_)
      · exact absurd c12 (by decide)
      · skip
        exact ret _ _ _ _ _ d_Picture_takeEntry_28 hw (by rw [ef10, ef9]; (try simp only [wd_uu]); simp [tE, z1, z11])
    · skip
      refine lv_if_eq (tgt := 29) hx hb d_Picture_takeEntry_25 (by decide) (fun c13 => ?_) (fun c13 => ?_)
      · skip
        refine lv_iload_n hx hb d_Picture_takeEntry_29 rfl (lv_at hl 0 rfl) ?_
        refine lv_if_eq (tgt := 41) hx hb d_Picture_takeEntry_30 (by decide) (fun c14 => ?_) (fun c14 => ?_)
        · skip
          refine lv_aload_n hx hb d_Picture_takeEntry_41 rfl (lv_at hl 1 rfl) ?_
          refine fg_Picture_15 X hK hw ha d_Picture_takeEntry_42 ?_
          refine lv_iconst (v := 2) hx hb d_Picture_takeEntry_45 (by decide) ?_
          refine lv_icmp_ne (tgt := 57) hx hb d_Picture_takeEntry_46 (by decide) (fun c15 => ?_) (fun c15 => ?_)
          · skip
            refine lv_aload_n hx hb d_Picture_takeEntry_57 rfl (lv_at hl 1 rfl) ?_
            refine fg_Picture_15 X hK hw ha d_Picture_takeEntry_58 ?_
            refine lv_iconst (v := 2) hx hb d_Picture_takeEntry_61 (by decide) ?_
            refine lv_icmp_le (tgt := 70) hx hb d_Picture_takeEntry_62 (by decide) (fun c16 => ?_) (fun c16 => ?_)
            · skip
              exact ret _ _ _ _ _ d_Picture_takeEntry_70 hw (by rw [ef10, ef9]; (try simp only [wd_uu]); simp [tE, z1, Decidable.not_not.mp z11, c15, c16])
            · skip
              refine lv_aload_n hx hb d_Picture_takeEntry_65 rfl (lv_at hl 1 rfl) ?_
              refine lv_iconst (v := 3) hx hb d_Picture_takeEntry_66 (by decide) ?_
              refine fp_Picture_18 X hK hw ha rfl rfl d_Picture_takeEntry_67 (fun f17 H locs ef17 hw => ?_)
              have ht : f17 tq = some (eT no ck to ea x) := by rw [ef17, wd_un (wd_ne ht ha (by decide))]; exact ht
              have ha : f17 a = some (eP no du sk wa (an + 1) 3 sw la) := by rw [ef17]; exact wd_us
              exact ret _ _ _ _ _ d_Picture_takeEntry_70 hw (by rw [ef17, ef10, ef9]; (try simp only [wd_uu]); simp [tE, z1, Decidable.not_not.mp z11, c15, c16])
          · skip
            refine lv_aload_n hx hb d_Picture_takeEntry_49 rfl (lv_at hl 1 rfl) ?_
            refine lv_iconst (v := 3) hx hb d_Picture_takeEntry_50 (by decide) ?_
            refine fp_Picture_9 X hK hw ha rfl rfl d_Picture_takeEntry_51 (fun f18 H locs ef18 hw => ?_)
            have ht : f18 tq = some (eT no ck to ea x) := by rw [ef18, wd_un (wd_ne ht ha (by decide))]; exact ht
            have ha : f18 a = some (eP no du sk 3 (an + 1) en sw la) := by rw [ef18]; exact wd_us
            refine lv_goto (tgt := 70) hx hb d_Picture_takeEntry_54 (by decide) ?_
            exact ret _ _ _ _ _ d_Picture_takeEntry_70 hw (by rw [ef18, ef10, ef9]; (try simp only [wd_uu]); simp [tE, z1, Decidable.not_not.mp z11, c15])
        · exact absurd c14 (by decide)
      · exact absurd c13 (by decide)
end
section
abbrev rm_ClerkRows_waiting : Room := { frames := 1, cells := 0, slots := 0, locals := 20 }
set_option maxHeartbeats 4000000 in
set_option maxRecDepth 100000 in
theorem c_ClerkRows_waiting {l : Launch} {D : va_G} {ca : Nat → ClassId} {f : wd_M} (a : Nat) (mo : Int32) (pa ka : Nat) (md : Int32) (nw : Int64) (lt : Int32) (ha : f a = some (eR mo pa ka md nw lt)) (gp : Nat → Option Nat) (hg : f pa = some (eA (ca 0) 300 gp)) (n : Nat) (P : Nat → PT) (hr : rp f gp n P) : Met l y_ClerkRows_waiting (.code y_ClerkRows_waiting b_ClerkRows_waiting 6 (some .int) :: tb) rm_ClerkRows_waiting (va_Pc [.ref a] (wd_pre D classes (ty ca) f)) (vp_Si (fun r => r = nI (cW P n))) 0 0 (fun _ => False) := by
  refine wd_Si (own := R_ClerkRows) (by decide) rfl (Nat.le_of_ble_eq_true rfl) ?_
  intro p e s m args below meth c Q X hK hw ret ls hl
  have hx := X.1
  have hb := X.2.1
  have hown := X.2.2.2.1
  have hts := X.2.2.2.2
  have hl : lv_has ls 6 [(0, .ref a)] := hl
  refine lv_iconst (v := 0) hx hb d_ClerkRows_waiting_0 (by decide) ?_
  refine lv_istore_n (lv' := [(1, .int 0), (0, .ref a)]) hx hb d_ClerkRows_waiting_1 rfl hl (by decide) rfl (fun ls hl => ?_)
  refine lv_aload_n hx hb d_ClerkRows_waiting_2 rfl (lv_at hl 1 rfl) ?_
  refine fg_ClerkRows_11 X hK hw ha d_ClerkRows_waiting_3 ?_
  refine lv_astore_n (lv' := [(2, .ref pa), (1, .int 0), (0, .ref a)]) hx hb d_ClerkRows_waiting_6 rfl hl (by decide) rfl (fun ls hl => ?_)
  refine lv_aload_n hx hb d_ClerkRows_waiting_7 rfl (lv_at hl 0 rfl) ?_
  refine wd_alen X hK hw hg 0 rfl (v := nI 300) rfl d_ClerkRows_waiting_8 ?_
  refine lv_istore_n (lv' := [(3, .int (nI 300)), (2, .ref pa), (1, .int 0), (0, .ref a)]) hx hb d_ClerkRows_waiting_9 rfl hl (by decide) rfl (fun ls hl => ?_)
  refine lv_iconst (v := 0) hx hb d_ClerkRows_waiting_10 (by decide) ?_
  refine lv_istore (lv' := [(4, .int 0), (3, .int (nI 300)), (2, .ref pa), (1, .int 0), (0, .ref a)]) hx hb d_ClerkRows_waiting_11 hl (by decide) rfl (fun ls hl => ?_)
  have loop : ∀ (d i : Nat) (k : Nat) (ls : Array Slot), n = i + d → k = cW P i → lv_has ls 6 [(4, .int (nI i)), (1, .int (nI k)), (2, .ref pa), (3, .int (nI 300)), (0, .ref a)] → W p l e rm_ClerkRows_waiting s m args below meth c s.heap [] 0 0 Q (F0 m 13 ls []) := by
    intro d
    induction d with
    | zero =>
      intro i k ls hd hk hl
      have hin : i = n := by omega
      rcases Nat.lt_or_ge i 300 with h3 | h3
      · skip
        refine lv_iload hx hb d_ClerkRows_waiting_13 (lv_at hl 0 rfl) ?_
        refine lv_iload_n hx hb d_ClerkRows_waiting_15 rfl (lv_at hl 3 rfl) ?_
        refine lv_icmp_ge (tgt := 50) hx hb d_ClerkRows_waiting_16 (by decide) (fun c => absurd c (nI_ge h3 (by decide))) (fun _ => ?_)
        refine lv_aload_n hx hb d_ClerkRows_waiting_19 rfl (lv_at hl 2 rfl) ?_
        refine lv_iload hx hb d_ClerkRows_waiting_20 (lv_at hl 0 rfl) ?_
        refine wd_aldN X hK hw hg 0 rfl h3 (by decide) (hr.2.2 i (Nat.le_of_eq hin.symm)) d_ClerkRows_waiting_22 ?_
        refine lv_astoreN (lv' := [(5, .null), (4, .int (nI i)), (1, .int (nI k)), (2, .ref pa), (3, .int (nI 300)), (0, .ref a)]) hx hb d_ClerkRows_waiting_23 hl (by decide) rfl (fun ls hl => ?_)
        refine lv_aloadN hx hb d_ClerkRows_waiting_25 (lv_at hl 0 rfl) ?_
        refine lv_ifnonnullN hx hb d_ClerkRows_waiting_27 ?_
        refine lv_goto (tgt := 50) hx hb d_ClerkRows_waiting_30 (by decide) ?_
        refine lv_iload_n hx hb d_ClerkRows_waiting_50 rfl (lv_at hl 2 rfl) ?_
        exact ret _ _ _ d_ClerkRows_waiting_51 (by rw [hk, hin])
      · skip
        refine lv_iload hx hb d_ClerkRows_waiting_13 (lv_at hl 0 rfl) ?_
        refine lv_iload_n hx hb d_ClerkRows_waiting_15 rfl (lv_at hl 3 rfl) ?_
        refine lv_icmp_ge (tgt := 50) hx hb d_ClerkRows_waiting_16 (by decide) (fun _ => ?_) (fun c => absurd (nI_le h3 (by rw [hin]; exact Nat.lt_of_le_of_lt hr.1 (by decide))) c)
        refine lv_iload_n hx hb d_ClerkRows_waiting_50 rfl (lv_at hl 1 rfl) ?_
        exact ret _ _ _ d_ClerkRows_waiting_51 (by rw [hk, hin])
    | succ d ih =>
      intro i k ls hd hk hl
      have hin : i < n := by omega
      have h3 : i < 300 := Nat.lt_of_lt_of_le hin hr.1
      obtain ⟨hgi, la, hpi, hci⟩ := hr.2.1 i hin
      refine lv_iload hx hb d_ClerkRows_waiting_13 (lv_at hl 0 rfl) ?_
      refine lv_iload_n hx hb d_ClerkRows_waiting_15 rfl (lv_at hl 3 rfl) ?_
      refine lv_icmp_ge (tgt := 50) hx hb d_ClerkRows_waiting_16 (by decide) (fun c => absurd c (nI_ge h3 (by decide))) (fun _ => ?_)
      refine lv_aload_n hx hb d_ClerkRows_waiting_19 rfl (lv_at hl 2 rfl) ?_
      refine lv_iload hx hb d_ClerkRows_waiting_20 (lv_at hl 0 rfl) ?_
      refine wd_aldS X hK hw hg 0 rfl h3 (by decide) hgi d_ClerkRows_waiting_22 ?_
      refine lv_astore (lv' := [(5, .ref (pAd (P i))), (4, .int (nI i)), (1, .int (nI k)), (2, .ref pa), (3, .int (nI 300)), (0, .ref a)]) hx hb d_ClerkRows_waiting_23 hl (by decide) rfl (fun ls hl => ?_)
      refine lv_aload hx hb d_ClerkRows_waiting_25 (lv_at hl 0 rfl) ?_
      refine lv_ifnonnull (tgt := 33) hx hb d_ClerkRows_waiting_27 (by decide) ?_
      refine lv_aload hx hb d_ClerkRows_waiting_33 (lv_at hl 0 rfl) ?_
      refine wd_cvi (As := []) (rest := []) X hK hw (c_Picture_hasEnded (pAd (P i)) (nI (i + 1)) (pDu (P i)) (pSk (P i)) (pWa (P i)) (pAn (P i)) (pEn (P i)) (pSw (P i)) la hpi) (cw_ClerkRows_114 hts rfl rfl ⟨(Nat.le_of_ble_eq_true rfl), (Nat.le_of_ble_eq_true rfl)⟩) hpi rfl rfl rfl hl.1 rfl (Nat.le_of_ble_eq_true rfl) d_ClerkRows_waiting_35 ⟨(Nat.le_of_ble_eq_true rfl), (Nat.le_of_ble_eq_true rfl)⟩ (fun r hz => ?_)
      rcases hz with ⟨z1, rfl⟩ | ⟨z1, rfl⟩
      · skip
        refine lv_if_ne (tgt := 44) hx hb d_ClerkRows_waiting_38 (by decide) (fun c2 => ?_) (fun c2 => ?_)
        · skip
          refine lv_iinc (v := ((nI i) + 1)) (lv' := [(4, .int ((nI i) + 1)), (5, .ref (pAd (P i))), (1, .int (nI k)), (2, .ref pa), (3, .int (nI 300)), (0, .ref a)]) hx hb d_ClerkRows_waiting_44 hl (k := 1) rfl rfl (by decide) rfl (fun ls hl => ?_)
          refine lv_goto (tgt := 13) hx hb d_ClerkRows_waiting_47 (by decide) ?_
          exact ih (i + 1) k ls (by omega) (by rw [hk]; simp only [cW, if_neg z1]) (by rw [nI_succ i]; exact lv_sub hl [0, 2, 3, 4, 5] rfl)
        · exact absurd c2 (by decide)
      · skip
        refine lv_if_ne (tgt := 44) hx hb d_ClerkRows_waiting_38 (by decide) (fun c3 => ?_) (fun c3 => ?_)
        · exact absurd c3 (by decide)
        · skip
          refine lv_iinc (v := ((nI k) + 1)) (lv' := [(1, .int ((nI k) + 1)), (5, .ref (pAd (P i))), (4, .int (nI i)), (2, .ref pa), (3, .int (nI 300)), (0, .ref a)]) hx hb d_ClerkRows_waiting_41 hl (k := 2) rfl rfl (by decide) rfl (fun ls hl => ?_)
          refine lv_iinc (v := ((nI i) + 1)) (lv' := [(4, .int ((nI i) + 1)), (1, .int ((nI k) + 1)), (5, .ref (pAd (P i))), (2, .ref pa), (3, .int (nI 300)), (0, .ref a)]) hx hb d_ClerkRows_waiting_44 hl (k := 2) rfl rfl (by decide) rfl (fun ls hl => ?_)
          refine lv_goto (tgt := 13) hx hb d_ClerkRows_waiting_47 (by decide) ?_
          exact ih (i + 1) (k + 1) ls (by omega) (by rw [hk]; simp only [cW, if_pos (Decidable.not_not.mp z1)]) (by rw [nI_succ i, nI_succ k]; exact lv_sub hl [0, 1, 3, 4, 5] rfl)
  exact loop n 0 0 ls (Nat.zero_add n).symm rfl (lv_sub hl [0, 3, 2, 1, 4] rfl)

abbrev rm_ClerkRows_findGiven : Room := { frames := 2, cells := 0, slots := 0, locals := 44 }
set_option maxHeartbeats 4000000 in
set_option maxRecDepth 100000 in
theorem c_ClerkRows_findGiven {l : Launch} {D : va_G} {ca : Nat → ClassId} {f : wd_M} (a : Nat) (mo : Int32) (pa ka : Nat) (md : Int32) (nw : Int64) (lt : Int32) (ha : f a = some (eR mo pa ka md nw lt)) (gp : Nat → Option Nat) (hg : f pa = some (eA (ca 0) 300 gp)) (n : Nat) (P : Nat → PT) (hr : rp f gp n P) (b : Nat) (kn ki ko ks : Int32) (kt : Option Nat) (hk : f b = some (eK kn ki ko ks kt)) : Met l y_ClerkRows_findGiven (.code y_ClerkRows_findGiven b_ClerkRows_findGiven 7 (some (.object "ClerkRows$Picture")) :: tb) rm_ClerkRows_findGiven (va_Pc [.ref a, .ref b] (wd_pre D classes (ty ca) f)) (va_Sq (fun r => r = (gvn P kn ko ks n).map (fun j => pAd (P j)))) 0 0 (fun _ => False) := by
  refine wd_Sq (own := R_ClerkRows) (by decide) rfl (Nat.le_of_ble_eq_true rfl) ?_
  intro p e s m args below meth c Q X hK hw ret ls hl
  have hx := X.1
  have hb := X.2.1
  have hown := X.2.2.2.1
  have hts := X.2.2.2.2
  have hl : lv_has ls 7 [(0, .ref a), (1, .ref b)] := hl
  refine lv_null hx hb d_ClerkRows_findGiven_0 ?_
  refine lv_astore_nN (lv' := [(2, .null), (0, .ref a), (1, .ref b)]) hx hb d_ClerkRows_findGiven_1 rfl hl (by decide) rfl (fun ls hl => ?_)
  refine lv_aload_n hx hb d_ClerkRows_findGiven_2 rfl (lv_at hl 1 rfl) ?_
  refine fg_ClerkRows_11 X hK hw ha d_ClerkRows_findGiven_3 ?_
  refine lv_astore_n (lv' := [(3, .ref pa), (2, .null), (0, .ref a), (1, .ref b)]) hx hb d_ClerkRows_findGiven_6 rfl hl (by decide) rfl (fun ls hl => ?_)
  refine lv_aload_n hx hb d_ClerkRows_findGiven_7 rfl (lv_at hl 0 rfl) ?_
  refine wd_alen X hK hw hg 0 rfl (v := nI 300) rfl d_ClerkRows_findGiven_8 ?_
  refine lv_istore (lv' := [(4, .int (nI 300)), (3, .ref pa), (2, .null), (0, .ref a), (1, .ref b)]) hx hb d_ClerkRows_findGiven_9 hl (by decide) rfl (fun ls hl => ?_)
  refine lv_iconst (v := 0) hx hb d_ClerkRows_findGiven_11 (by decide) ?_
  refine lv_istore (lv' := [(5, .int 0), (4, .int (nI 300)), (3, .ref pa), (2, .null), (0, .ref a), (1, .ref b)]) hx hb d_ClerkRows_findGiven_12 hl (by decide) rfl (fun ls hl => ?_)
  have loop : ∀ (d i : Nat) (bi : Option Nat) (ls : Array Slot), n = i + d → bi = gvn P kn ko ks i → (∀ b, bi = some b → b < i) → lv_has ls 7 [(5, .int (nI i)), (2, va_rf (bi.map (fun j => pAd (P j)))), (3, .ref pa), (4, .int (nI 300)), (1, .ref b), (0, .ref a)] → W p l e rm_ClerkRows_findGiven s m args below meth c s.heap [] 0 0 Q (F0 m 14 ls []) := by
    intro d
    induction d with
    | zero =>
      intro i bi ls hd hbi hlt hl
      have hin : i = n := by omega
      rcases Nat.lt_or_ge i 300 with h3 | h3
      · skip
        refine lv_iload hx hb d_ClerkRows_findGiven_14 (lv_at hl 0 rfl) ?_
        refine lv_iload hx hb d_ClerkRows_findGiven_16 (lv_at hl 3 rfl) ?_
        refine lv_icmp_ge (tgt := 70) hx hb d_ClerkRows_findGiven_18 (by decide) (fun c => absurd c (nI_ge h3 (by decide))) (fun _ => ?_)
        refine lv_aload_n hx hb d_ClerkRows_findGiven_21 rfl (lv_at hl 2 rfl) ?_
        refine lv_iload hx hb d_ClerkRows_findGiven_22 (lv_at hl 0 rfl) ?_
        refine wd_aldN X hK hw hg 0 rfl h3 (by decide) (hr.2.2 i (Nat.le_of_eq hin.symm)) d_ClerkRows_findGiven_24 ?_
        refine lv_astoreN (lv' := [(6, .null), (5, .int (nI i)), (2, va_rf (bi.map (fun j => pAd (P j)))), (3, .ref pa), (4, .int (nI 300)), (1, .ref b), (0, .ref a)]) hx hb d_ClerkRows_findGiven_25 hl (by decide) rfl (fun ls hl => ?_)
        refine lv_aloadN hx hb d_ClerkRows_findGiven_27 (lv_at hl 0 rfl) ?_
        refine lv_ifnonnullN hx hb d_ClerkRows_findGiven_29 ?_
        refine lv_goto (tgt := 70) hx hb d_ClerkRows_findGiven_32 (by decide) ?_
        refine wd_aload_n hx hb d_ClerkRows_findGiven_70 rfl (lv_at hl 2 rfl) ?_
        exact ret _ _ (bi.map (fun j => pAd (P j))) _ d_ClerkRows_findGiven_71 rfl (by rw [← hin, ← hbi])
      · skip
        refine lv_iload hx hb d_ClerkRows_findGiven_14 (lv_at hl 0 rfl) ?_
        refine lv_iload hx hb d_ClerkRows_findGiven_16 (lv_at hl 3 rfl) ?_
        refine lv_icmp_ge (tgt := 70) hx hb d_ClerkRows_findGiven_18 (by decide) (fun _ => ?_) (fun c => absurd (nI_le h3 (by rw [hin]; exact Nat.lt_of_le_of_lt hr.1 (by decide))) c)
        refine wd_aload_n hx hb d_ClerkRows_findGiven_70 rfl (lv_at hl 1 rfl) ?_
        exact ret _ _ (bi.map (fun j => pAd (P j))) _ d_ClerkRows_findGiven_71 rfl (by rw [← hin, ← hbi])
    | succ d ih =>
      intro i bi ls hd hbi hlt hl
      have hin : i < n := by omega
      have h3 : i < 300 := Nat.lt_of_lt_of_le hin hr.1
      obtain ⟨hgi, la, hpi, hci⟩ := hr.2.1 i hin
      refine lv_iload hx hb d_ClerkRows_findGiven_14 (lv_at hl 0 rfl) ?_
      refine lv_iload hx hb d_ClerkRows_findGiven_16 (lv_at hl 3 rfl) ?_
      refine lv_icmp_ge (tgt := 70) hx hb d_ClerkRows_findGiven_18 (by decide) (fun c => absurd c (nI_ge h3 (by decide))) (fun _ => ?_)
      refine lv_aload_n hx hb d_ClerkRows_findGiven_21 rfl (lv_at hl 2 rfl) ?_
      refine lv_iload hx hb d_ClerkRows_findGiven_22 (lv_at hl 0 rfl) ?_
      refine wd_aldS X hK hw hg 0 rfl h3 (by decide) hgi d_ClerkRows_findGiven_24 ?_
      refine lv_astore (lv' := [(6, .ref (pAd (P i))), (5, .int (nI i)), (2, va_rf (bi.map (fun j => pAd (P j)))), (3, .ref pa), (4, .int (nI 300)), (1, .ref b), (0, .ref a)]) hx hb d_ClerkRows_findGiven_25 hl (by decide) rfl (fun ls hl => ?_)
      refine lv_aload hx hb d_ClerkRows_findGiven_27 (lv_at hl 0 rfl) ?_
      refine lv_ifnonnull (tgt := 35) hx hb d_ClerkRows_findGiven_29 (by decide) ?_
      rcases bi with _ | j
      · skip
        have hl : lv_has ls 7 [(6, .ref (pAd (P i))), (5, .int (nI i)), (2, .null), (3, .ref pa), (4, .int (nI 300)), (1, .ref b), (0, .ref a)] := hl
        refine lv_aload_nN hx hb d_ClerkRows_findGiven_35 rfl (lv_at hl 2 rfl) ?_
        refine lv_ifnullN (tgt := 52) hx hb d_ClerkRows_findGiven_36 (by decide) ?_
        refine lv_aload hx hb d_ClerkRows_findGiven_52 (lv_at hl 0 rfl) ?_
        refine lv_aload_n hx hb d_ClerkRows_findGiven_54 rfl (lv_at hl 5 rfl) ?_
        refine wd_cvi (As := [.ref b]) (rest := []) X hK hw (c_Picture_isFreeFor (pAd (P i)) (nI (i + 1)) (pDu (P i)) (pSk (P i)) (pWa (P i)) (pAn (P i)) (pEn (P i)) (pSw (P i)) la hpi b kn ki ko ks kt hk (pL (P i)) hci) (cw_ClerkRows_137 hts rfl rfl ⟨(Nat.le_of_ble_eq_true rfl), (Nat.le_of_ble_eq_true rfl)⟩) hpi rfl rfl rfl hl.1 rfl (Nat.le_of_ble_eq_true rfl) d_ClerkRows_findGiven_55 ⟨(Nat.le_of_ble_eq_true rfl), (Nat.le_of_ble_eq_true rfl)⟩ (fun r hz => ?_)
        rcases hz with ⟨z1, rfl⟩ | ⟨z1, rfl⟩
        · skip
          refine lv_if_eq (tgt := 64) hx hb d_ClerkRows_findGiven_58 (by decide) (fun c2 => ?_) (fun c2 => ?_)
          · exact absurd c2 (by decide)
          · skip
            refine lv_aload hx hb d_ClerkRows_findGiven_61 (lv_at hl 0 rfl) ?_
            refine lv_astore_n (lv' := [(2, .ref (pAd (P i))), (6, .ref (pAd (P i))), (5, .int (nI i)), (3, .ref pa), (4, .int (nI 300)), (1, .ref b), (0, .ref a)]) hx hb d_ClerkRows_findGiven_63 rfl hl (by decide) rfl (fun ls hl => ?_)
            refine lv_iinc (v := ((nI i) + 1)) (lv' := [(5, .int ((nI i) + 1)), (2, .ref (pAd (P i))), (6, .ref (pAd (P i))), (3, .ref pa), (4, .int (nI 300)), (1, .ref b), (0, .ref a)]) hx hb d_ClerkRows_findGiven_64 hl (k := 2) rfl rfl (by decide) rfl (fun ls hl => ?_)
            refine lv_goto (tgt := 14) hx hb d_ClerkRows_findGiven_67 (by decide) ?_
            exact ih (i + 1) (some i) ls (by omega) (gv_nt hbi z1) (fun b hb => by cases hb; exact Nat.lt_succ_self i) (by rw [nI_succ i]; exact lv_sub hl [0, 1, 3, 4, 5, 6] rfl)
        · skip
          refine lv_if_eq (tgt := 64) hx hb d_ClerkRows_findGiven_58 (by decide) (fun c3 => ?_) (fun c3 => ?_)
          · skip
            refine lv_iinc (v := ((nI i) + 1)) (lv' := [(5, .int ((nI i) + 1)), (6, .ref (pAd (P i))), (2, .null), (3, .ref pa), (4, .int (nI 300)), (1, .ref b), (0, .ref a)]) hx hb d_ClerkRows_findGiven_64 hl (k := 1) rfl rfl (by decide) rfl (fun ls hl => ?_)
            refine lv_goto (tgt := 14) hx hb d_ClerkRows_findGiven_67 (by decide) ?_
            exact ih (i + 1) none ls (by omega) (gv_nf hbi z1) (fun b hb => Nat.lt_succ_of_lt (hlt b hb)) (by rw [nI_succ i]; exact lv_sub hl [0, 2, 3, 4, 5, 6] rfl)
          · exact absurd c3 (by decide)
      · skip
        have hjn : j < n := Nat.lt_trans (hlt j rfl) hin
        obtain ⟨-, lj, hpj, -⟩ := hr.2.1 j hjn
        have hl : lv_has ls 7 [(6, .ref (pAd (P i))), (5, .int (nI i)), (2, .ref (pAd (P j))), (3, .ref pa), (4, .int (nI 300)), (1, .ref b), (0, .ref a)] := hl
        refine lv_aload_n hx hb d_ClerkRows_findGiven_35 rfl (lv_at hl 2 rfl) ?_
        refine lv_ifnull hx hb d_ClerkRows_findGiven_36 ?_
        refine lv_aload hx hb d_ClerkRows_findGiven_39 (lv_at hl 0 rfl) ?_
        refine fg_ClerkRows_131 X hK hw hpi d_ClerkRows_findGiven_41 ?_
        refine lv_aload_n hx hb d_ClerkRows_findGiven_44 rfl (lv_at hl 2 rfl) ?_
        refine fg_ClerkRows_131 X hK hw hpj d_ClerkRows_findGiven_45 ?_
        refine W.lcmp hx hb d_ClerkRows_findGiven_48 ?_
        refine lv_if_ge (tgt := 64) hx hb d_ClerkRows_findGiven_49 (by decide) (fun c4 => ?_) (fun c4 => ?_)
        · skip
          refine lv_iinc (v := ((nI i) + 1)) (lv' := [(5, .int ((nI i) + 1)), (6, .ref (pAd (P i))), (2, .ref (pAd (P j))), (3, .ref pa), (4, .int (nI 300)), (1, .ref b), (0, .ref a)]) hx hb d_ClerkRows_findGiven_64 hl (k := 1) rfl rfl (by decide) rfl (fun ls hl => ?_)
          refine lv_goto (tgt := 14) hx hb d_ClerkRows_findGiven_67 (by decide) ?_
          exact ih (i + 1) (some j) ls (by omega) (gv_sd hbi (cmp_ge c4)) (fun b hb => Nat.lt_succ_of_lt (hlt b hb)) (by rw [nI_succ i]; exact lv_sub hl [0, 2, 3, 4, 5, 6] rfl)
        · skip
          refine lv_aload hx hb d_ClerkRows_findGiven_52 (lv_at hl 0 rfl) ?_
          refine lv_aload_n hx hb d_ClerkRows_findGiven_54 rfl (lv_at hl 5 rfl) ?_
          refine wd_cvi (As := [.ref b]) (rest := []) X hK hw (c_Picture_isFreeFor (pAd (P i)) (nI (i + 1)) (pDu (P i)) (pSk (P i)) (pWa (P i)) (pAn (P i)) (pEn (P i)) (pSw (P i)) la hpi b kn ki ko ks kt hk (pL (P i)) hci) (cw_ClerkRows_137 hts rfl rfl ⟨(Nat.le_of_ble_eq_true rfl), (Nat.le_of_ble_eq_true rfl)⟩) hpi rfl rfl rfl hl.1 rfl (Nat.le_of_ble_eq_true rfl) d_ClerkRows_findGiven_55 ⟨(Nat.le_of_ble_eq_true rfl), (Nat.le_of_ble_eq_true rfl)⟩ (fun r hz => ?_)
          rcases hz with ⟨z5, rfl⟩ | ⟨z5, rfl⟩
          · skip
            refine lv_if_eq (tgt := 64) hx hb d_ClerkRows_findGiven_58 (by decide) (fun c6 => ?_) (fun c6 => ?_)
            · exact absurd c6 (by decide)
            · skip
              refine lv_aload hx hb d_ClerkRows_findGiven_61 (lv_at hl 0 rfl) ?_
              refine lv_astore_n (lv' := [(2, .ref (pAd (P i))), (6, .ref (pAd (P i))), (5, .int (nI i)), (3, .ref pa), (4, .int (nI 300)), (1, .ref b), (0, .ref a)]) hx hb d_ClerkRows_findGiven_63 rfl hl (by decide) rfl (fun ls hl => ?_)
              refine lv_iinc (v := ((nI i) + 1)) (lv' := [(5, .int ((nI i) + 1)), (2, .ref (pAd (P i))), (6, .ref (pAd (P i))), (3, .ref pa), (4, .int (nI 300)), (1, .ref b), (0, .ref a)]) hx hb d_ClerkRows_findGiven_64 hl (k := 2) rfl rfl (by decide) rfl (fun ls hl => ?_)
              refine lv_goto (tgt := 14) hx hb d_ClerkRows_findGiven_67 (by decide) ?_
              exact ih (i + 1) (some i) ls (by omega) (gv_st hbi (cmp_nge c4) z5) (fun b hb => by cases hb; exact Nat.lt_succ_self i) (by rw [nI_succ i]; exact lv_sub hl [0, 1, 3, 4, 5, 6] rfl)
          · skip
            refine lv_if_eq (tgt := 64) hx hb d_ClerkRows_findGiven_58 (by decide) (fun c7 => ?_) (fun c7 => ?_)
            · skip
              refine lv_iinc (v := ((nI i) + 1)) (lv' := [(5, .int ((nI i) + 1)), (6, .ref (pAd (P i))), (2, .ref (pAd (P j))), (3, .ref pa), (4, .int (nI 300)), (1, .ref b), (0, .ref a)]) hx hb d_ClerkRows_findGiven_64 hl (k := 1) rfl rfl (by decide) rfl (fun ls hl => ?_)
              refine lv_goto (tgt := 14) hx hb d_ClerkRows_findGiven_67 (by decide) ?_
              exact ih (i + 1) (some j) ls (by omega) (gv_sf hbi z5) (fun b hb => Nat.lt_succ_of_lt (hlt b hb)) (by rw [nI_succ i]; exact lv_sub hl [0, 2, 3, 4, 5, 6] rfl)
            · exact absurd c7 (by decide)
  exact loop n 0 none ls (Nat.zero_add n).symm rfl (fun _ h => by cases h) (lv_sub hl [0, 3, 2, 1, 5, 4] rfl)

abbrev rm_ClerkRows_passTo : Room := { frames := 1, cells := 0, slots := 0, locals := 20 }
set_option maxHeartbeats 4000000 in
set_option maxRecDepth 100000 in
theorem c_ClerkRows_passTo {l : Launch} {D : va_G} {ca : Nat → ClassId} {f : wd_M} {sz : Nat} (a : Nat) (mo : Int32) (pa ka : Nat) (md : Int32) (nw : Int64) (lt : Int32) (ha : f a = some (eR mo pa ka md nw lt)) (gp : Nat → Option Nat) (hg : f pa = some (eA (ca 0) 300 gp)) (n : Nat) (P : Nat → PT) (hr : rp f gp n P) (t : Int64) : Met l y_ClerkRows_passTo (.code y_ClerkRows_passTo b_ClerkRows_passTo 7 none :: tb) rm_ClerkRows_passTo (va_Pc [.ref a, .long t] (wd_preZ D classes (ty ca) f sz)) (va_Qv (fun f' => f' a = some (eR mo pa ka md t (lt + nI (cL t P n))) ∧ f' pa = some (eA (ca 0) 300 gp) ∧ rp f' gp n (pst t P n) ∧ ∀ q : Nat, q ≠ a → (∀ j : Nat, j < n → q ≠ pAd (P j)) → f' q = f q) (wd_B D classes f sz) (wd_A f sz)) 0 0 (wd_A f sz) := by
  refine wd_Qv (own := R_ClerkRows) (by decide) rfl (Nat.le_of_ble_eq_true rfl) ?_
  intro p e s m args below meth c Q X hK hnm hw ret ls hl
  have hx := X.1
  have hb := X.2.1
  have hown := X.2.2.2.1
  have hts := X.2.2.2.2
  have hl : lv_has ls 7 [(0, .ref a), (1, .long t)] := hl
  refine lv_aload_n hx hb d_ClerkRows_passTo_0 rfl (lv_at hl 0 rfl) ?_
  refine lv_lload_n hx hb d_ClerkRows_passTo_1 rfl (lv_at hl 1 rfl) ?_
  have ha0 := ha
  refine fp_ClerkRows_25 X hK hw ha rfl rfl d_ClerkRows_passTo_2 (fun f1 H locs ef1 hw => ?_)
  have hg : f1 pa = some (eA (ca 0) 300 gp) := by rw [ef1, wd_un (Ne.symm (wd_neA ha hg))]; exact hg
  have ha : f1 a = some (eR mo pa ka md t lt) := by rw [ef1]; exact wd_us
  refine lv_aload_n hx hb d_ClerkRows_passTo_5 rfl (lv_at hl 0 rfl) ?_
  refine fg_ClerkRows_11 X hK hw ha d_ClerkRows_passTo_6 ?_
  refine lv_astore_n (lv' := [(3, .ref pa), (0, .ref a), (1, .long t)]) hx hb d_ClerkRows_passTo_9 rfl hl (by decide) rfl (fun ls hl => ?_)
  refine lv_aload_n hx hb d_ClerkRows_passTo_10 rfl (lv_at hl 0 rfl) ?_
  refine wd_alen X hK hw hg 0 rfl (v := nI 300) rfl d_ClerkRows_passTo_11 ?_
  refine lv_istore (lv' := [(4, .int (nI 300)), (3, .ref pa), (0, .ref a), (1, .long t)]) hx hb d_ClerkRows_passTo_12 hl (by decide) rfl (fun ls hl => ?_)
  refine lv_iconst (v := 0) hx hb d_ClerkRows_passTo_14 (by decide) ?_
  refine lv_istore (lv' := [(5, .int 0), (4, .int (nI 300)), (3, .ref pa), (0, .ref a), (1, .long t)]) hx hb d_ClerkRows_passTo_15 hl (by decide) rfl (fun ls hl => ?_)
  have loop : ∀ (d i : Nat) (k : Nat) (f1 : wd_M) (H : Heap) (locs : List Loc) (ls : Array Slot), n = i + d → wd_I D classes (wd_A f s.heap.size) s.heap f1 H locs → k = cL t P i → f1 a = some (eR mo pa ka md t (lt + nI k)) → f1 pa = some (eA (ca 0) 300 gp) → rp f1 gp n (pst t P i) → (∀ q : Nat, q ≠ a → (∀ j : Nat, j < n → q ≠ pAd (P j)) → f1 q = f q) → lv_has ls 7 [(5, .int (nI i)), (3, .ref pa), (4, .int (nI 300)), (1, .long t), (0, .ref a)] → W p l e rm_ClerkRows_passTo s m args below meth c H locs 0 0 Q (F0 m 17 ls []) := by
    intro d
    induction d with
    | zero =>
      intro i k f1 H locs ls hd hw hk hq1 hg1 hq2 hq3 hl
      have hin : i = n := by omega
      rcases Nat.lt_or_ge i 300 with h3 | h3
      · skip
        refine lv_iload hx hb d_ClerkRows_passTo_17 (lv_at hl 0 rfl) ?_
        refine lv_iload hx hb d_ClerkRows_passTo_19 (lv_at hl 2 rfl) ?_
        refine lv_icmp_ge (tgt := 78) hx hb d_ClerkRows_passTo_21 (by decide) (fun c => absurd c (nI_ge h3 (by decide))) (fun _ => ?_)
        refine lv_aload_n hx hb d_ClerkRows_passTo_24 rfl (lv_at hl 1 rfl) ?_
        refine lv_iload hx hb d_ClerkRows_passTo_25 (lv_at hl 0 rfl) ?_
        refine wd_aldN X hK hw hg1 0 rfl h3 (by decide) (hq2.2.2 i (Nat.le_of_eq hin.symm)) d_ClerkRows_passTo_27 ?_
        refine lv_astoreN (lv' := [(6, .null), (5, .int (nI i)), (3, .ref pa), (4, .int (nI 300)), (1, .long t), (0, .ref a)]) hx hb d_ClerkRows_passTo_28 hl (by decide) rfl (fun ls hl => ?_)
        refine lv_aloadN hx hb d_ClerkRows_passTo_30 (lv_at hl 0 rfl) ?_
        refine lv_ifnonnullN hx hb d_ClerkRows_passTo_32 ?_
        refine lv_goto (tgt := 78) hx hb d_ClerkRows_passTo_35 (by decide) ?_
        exact ret _ _ _ _ _ d_ClerkRows_passTo_78 hw (by subst hin; rw [hk] at hq1; exact ⟨hq1, hg1, hq2, hq3⟩)
      · skip
        refine lv_iload hx hb d_ClerkRows_passTo_17 (lv_at hl 0 rfl) ?_
        refine lv_iload hx hb d_ClerkRows_passTo_19 (lv_at hl 2 rfl) ?_
        refine lv_icmp_ge (tgt := 78) hx hb d_ClerkRows_passTo_21 (by decide) (fun _ => ?_) (fun c => absurd (nI_le h3 (by rw [hin]; exact Nat.lt_of_le_of_lt hq2.1 (by decide))) c)
        exact ret _ _ _ _ _ d_ClerkRows_passTo_78 hw (by subst hin; rw [hk] at hq1; exact ⟨hq1, hg1, hq2, hq3⟩)
    | succ d ih =>
      intro i k f1 H locs ls hd hw hk hq1 hg1 hq2 hq3 hl
      have hin : i < n := by omega
      have h3 : i < 300 := Nat.lt_of_lt_of_le hin hq2.1
      obtain ⟨hgi, la, hpi, hci⟩ := hq2.2.1 i hin
      rw [pst_ge (Nat.le_refl i)] at hgi hpi hci
      refine lv_iload hx hb d_ClerkRows_passTo_17 (lv_at hl 0 rfl) ?_
      refine lv_iload hx hb d_ClerkRows_passTo_19 (lv_at hl 2 rfl) ?_
      refine lv_icmp_ge (tgt := 78) hx hb d_ClerkRows_passTo_21 (by decide) (fun c => absurd c (nI_ge h3 (by decide))) (fun _ => ?_)
      refine lv_aload_n hx hb d_ClerkRows_passTo_24 rfl (lv_at hl 1 rfl) ?_
      refine lv_iload hx hb d_ClerkRows_passTo_25 (lv_at hl 0 rfl) ?_
      refine wd_aldS X hK hw hg1 0 rfl h3 (by decide) hgi d_ClerkRows_passTo_27 ?_
      refine lv_astore (lv' := [(6, .ref (pAd (P i))), (5, .int (nI i)), (3, .ref pa), (4, .int (nI 300)), (1, .long t), (0, .ref a)]) hx hb d_ClerkRows_passTo_28 hl (by decide) rfl (fun ls hl => ?_)
      refine lv_aload hx hb d_ClerkRows_passTo_30 (lv_at hl 0 rfl) ?_
      refine lv_ifnonnull (tgt := 38) hx hb d_ClerkRows_passTo_32 (by decide) ?_
      refine lv_aload hx hb d_ClerkRows_passTo_38 (lv_at hl 0 rfl) ?_
      refine wd_cvi (As := []) (rest := []) X hK hw (c_Picture_hasEnded (pAd (P i)) (nI (i + 1)) (pDu (P i)) (pSk (P i)) (pWa (P i)) (pAn (P i)) (pEn (P i)) (pSw (P i)) la hpi) (cw_ClerkRows_114 hts rfl rfl ⟨(Nat.le_of_ble_eq_true rfl), (Nat.le_of_ble_eq_true rfl)⟩) hpi rfl rfl rfl hl.1 rfl (Nat.le_of_ble_eq_true rfl) d_ClerkRows_passTo_40 ⟨(Nat.le_of_ble_eq_true rfl), (Nat.le_of_ble_eq_true rfl)⟩ (fun r hz => ?_)
      rcases hz with ⟨z2, rfl⟩ | ⟨z2, rfl⟩
      · skip
        refine lv_if_ne (tgt := 72) hx hb d_ClerkRows_passTo_43 (by decide) (fun c3 => ?_) (fun c3 => ?_)
        · skip
          refine lv_iinc (v := ((nI i) + 1)) (lv' := [(5, .int ((nI i) + 1)), (6, .ref (pAd (P i))), (3, .ref pa), (4, .int (nI 300)), (1, .long t), (0, .ref a)]) hx hb d_ClerkRows_passTo_72 hl (k := 1) rfl rfl (by decide) rfl (fun ls hl => ?_)
          refine lv_goto (tgt := 17) hx hb d_ClerkRows_passTo_75 (by decide) ?_
          exact ih (i + 1) k f1 _ _ ls (by omega) hw (by rw [hk]; exact (if_neg (fun q => z2 q.1)).symm) hq1 hg1 (by rw [pst_no (fun q => z2 q.1)]; exact hq2) hq3 (by rw [nI_succ i]; exact lv_sub hl [0, 2, 3, 4, 5] rfl)
        · exact absurd c3 (by decide)
      · skip
        refine lv_if_ne (tgt := 72) hx hb d_ClerkRows_passTo_43 (by decide) (fun c4 => ?_) (fun c4 => ?_)
        · exact absurd c4 (by decide)
        · skip
          refine lv_aload hx hb d_ClerkRows_passTo_46 (lv_at hl 0 rfl) ?_
          refine fg_ClerkRows_131 X hK hw hpi d_ClerkRows_passTo_48 ?_
          refine lv_lload_n hx hb d_ClerkRows_passTo_51 rfl (lv_at hl 4 rfl) ?_
          refine W.lcmp hx hb d_ClerkRows_passTo_52 ?_
          refine lv_if_ge (tgt := 72) hx hb d_ClerkRows_passTo_53 (by decide) (fun c5 => ?_) (fun c5 => ?_)
          · skip
            refine lv_iinc (v := ((nI i) + 1)) (lv' := [(5, .int ((nI i) + 1)), (6, .ref (pAd (P i))), (3, .ref pa), (4, .int (nI 300)), (1, .long t), (0, .ref a)]) hx hb d_ClerkRows_passTo_72 hl (k := 1) rfl rfl (by decide) rfl (fun ls hl => ?_)
            refine lv_goto (tgt := 17) hx hb d_ClerkRows_passTo_75 (by decide) ?_
            exact ih (i + 1) k f1 _ _ ls (by omega) hw (by rw [hk]; exact (if_neg (fun q => cmp_ge c5 q.2)).symm) hq1 hg1 (by rw [pst_no (fun q => cmp_ge c5 q.2)]; exact hq2) hq3 (by rw [nI_succ i]; exact lv_sub hl [0, 2, 3, 4, 5] rfl)
          · skip
            have hpi0 := hpi
            refine lv_aload hx hb d_ClerkRows_passTo_56 (lv_at hl 0 rfl) ?_
            refine lv_iconst (v := 4) hx hb d_ClerkRows_passTo_58 (by decide) ?_
            refine fp_ClerkRows_134 X hK hw hpi rfl rfl d_ClerkRows_passTo_59 (fun f6 H locs ef6 hw => ?_)
            have hq1 : f6 a = some (eR mo pa ka md t (lt + nI k)) := by rw [ef6, wd_un (wd_ne hq1 hpi (by decide))]; exact hq1
            have hg1 : f6 pa = some (eA (ca 0) 300 gp) := by rw [ef6, wd_un (Ne.symm (wd_neA hpi hg1))]; exact hg1
            have hpi : f6 (pAd (P i)) = some (eP (nI (i + 1)) (pDu (P i)) (pSk (P i)) (pWa (P i)) (pAn (P i)) 4 (pSw (P i)) la) := by rw [ef6]; exact wd_us
            have hq2 : rp f6 gp n (pst t P (i + 1)) := by rw [ef6]; exact rp_late hq2 hin ⟨Decidable.not_not.mp z2, cmp_nge c5⟩ hpi0 hci
            have hq3 : ∀ q : Nat, q ≠ a → (∀ j : Nat, j < n → q ≠ pAd (P j)) → f6 q = f q := fun q h1 h2 => by rw [ef6, wd_un (h2 i hin)]; exact hq3 q h1 h2
            refine lv_aload_n hx hb d_ClerkRows_passTo_62 rfl (lv_at hl 5 rfl) ?_
            refine lv_dup hx hb d_ClerkRows_passTo_63 rfl ?_
            refine fg_ClerkRows_29 X hK hw hq1 d_ClerkRows_passTo_64 ?_
            refine lv_iconst (v := 1) hx hb d_ClerkRows_passTo_67 (by decide) ?_
            refine lv_iadd hx hb d_ClerkRows_passTo_68 ?_
            have hq10 := hq1
            refine fp_ClerkRows_29 X hK hw hq1 rfl rfl d_ClerkRows_passTo_69 (fun f7 H locs ef7 hw => ?_)
            have hg1 : f7 pa = some (eA (ca 0) 300 gp) := by rw [ef7, wd_un (Ne.symm (wd_neA hq1 hg1))]; exact hg1
            have hpi : f7 (pAd (P i)) = some (eP (nI (i + 1)) (pDu (P i)) (pSk (P i)) (pWa (P i)) (pAn (P i)) 4 (pSw (P i)) la) := by rw [ef7, wd_un (wd_ne hpi hq1 (by decide))]; exact hpi
            have hq1 : f7 a = some (eR mo pa ka md t ((lt + nI k) + 1)) := by rw [ef7]; exact wd_us
            have hq2 : rp f7 gp n (pst t P (i + 1)) := by rw [ef7]; exact rp_off hq2 hq10 (by decide) (by decide)
            have hq3 : ∀ q : Nat, q ≠ a → (∀ j : Nat, j < n → q ≠ pAd (P j)) → f7 q = f q := fun q h1 h2 => by rw [ef7, wd_un h1]; exact hq3 q h1 h2
            refine lv_iinc (v := ((nI i) + 1)) (lv' := [(5, .int ((nI i) + 1)), (6, .ref (pAd (P i))), (3, .ref pa), (4, .int (nI 300)), (1, .long t), (0, .ref a)]) hx hb d_ClerkRows_passTo_72 hl (k := 1) rfl rfl (by decide) rfl (fun ls hl => ?_)
            refine lv_goto (tgt := 17) hx hb d_ClerkRows_passTo_75 (by decide) ?_
            exact ih (i + 1) (k + 1) f7 _ _ ls (by omega) hw (by rw [hk]; exact (if_pos ⟨Decidable.not_not.mp z2, cmp_nge c5⟩).symm) (by rw [nI_succ k, ← Int32.add_assoc]; exact hq1) hg1 hq2 hq3 (by rw [nI_succ i]; exact lv_sub hl [0, 2, 3, 4, 5] rfl)
  exact loop n 0 0 f1 _ _ ls (Nat.zero_add n).symm hw rfl (by rw [add_n0]; exact ha) hg (by rw [pst_0, ef1]; exact rp_off hr ha0 (by decide) (by decide)) (fun q h1 _ => by rw [ef1, wd_un h1]) (lv_sub hl [0, 2, 1, 4, 3] rfl)

abbrev rm_ClerkRows_agreement : Room := { frames := 1, cells := 0, slots := 0, locals := 22 }
set_option maxHeartbeats 4000000 in
set_option maxRecDepth 100000 in
theorem c_ClerkRows_agreement {l : Launch} {D : va_G} {ca : Nat → ClassId} {f : wd_M} (a : Nat) (mo : Int32) (pa ka : Nat) (md : Int32) (nw : Int64) (lt : Int32) (ha : f a = some (eR mo pa ka md nw lt)) (gp : Nat → Option Nat) (hg : f pa = some (eA (ca 0) 300 gp)) (n : Nat) (P : Nat → PT) (hr : rp f gp n P) (gk : Nat → Option Nat) (K : Nat → KT) (hgk : f ka = some (eA (ca 1) 20 gk)) (hrk : rk f gk K) (x y sd : Int32) : Met l y_ClerkRows_agreement (.code y_ClerkRows_agreement b_ClerkRows_agreement 14 (some .long) :: tb) rm_ClerkRows_agreement (va_Pc [.ref a, .int x, .int y, .int sd] (wd_pre D classes (ty ca) f)) (vp_Sl (fun r => r = agr P n x y sd)) 0 0 (fun _ => False) := by
  refine wd_Sl (own := R_ClerkRows) (by decide) rfl (Nat.le_of_ble_eq_true rfl) ?_
  intro p e s m args below meth c Q X hK hw ret ls hl
  have hx := X.1
  have hb := X.2.1
  have hown := X.2.2.2.1
  have hts := X.2.2.2.2
  have hl : lv_has ls 14 [(0, .ref a), (1, .int x), (2, .int y), (3, .int sd)] := hl
  refine lv_aload_n hx hb d_ClerkRows_agreement_0 rfl (lv_at hl 0 rfl) ?_
  refine lv_iload_n hx hb d_ClerkRows_agreement_1 rfl (lv_at hl 1 rfl) ?_
  refine wd_cvq (As := [.int x]) (rest := []) X hK hw (c_ClerkRows_findClerk a mo pa ka md nw lt ha gk hgk x) (cw_ClerkRows_62 hts rfl rfl ⟨(Nat.le_of_ble_eq_true rfl), (Nat.le_of_ble_eq_true rfl)⟩) ha rfl rfl rfl hl.1 rfl (Nat.le_of_ble_eq_true rfl) d_ClerkRows_agreement_2 ⟨(Nat.le_of_ble_eq_true rfl), (Nat.le_of_ble_eq_true rfl)⟩ (fun r hz => ?_)
  rcases hz with ⟨j1, hj1, hx1, hz⟩ | ⟨nx1, hz⟩
  · skip
    rw [(hrk j1 hj1).1] at hz
    subst hz
    have hkj1 : f (kAd (K j1)) = some (eJ (nI j1) (K j1)) := (hrk j1 hj1).2
    refine lv_ifnull hx hb d_ClerkRows_agreement_5 ?_
    refine lv_aload_n hx hb d_ClerkRows_agreement_8 rfl (lv_at hl 0 rfl) ?_
    refine lv_iload_n hx hb d_ClerkRows_agreement_9 rfl (lv_at hl 2 rfl) ?_
    refine wd_cvq (As := [.int y]) (rest := []) X hK hw (c_ClerkRows_findClerk a mo pa ka md nw lt ha gk hgk y) (cw_ClerkRows_62 hts rfl rfl ⟨(Nat.le_of_ble_eq_true rfl), (Nat.le_of_ble_eq_true rfl)⟩) ha rfl rfl rfl hl.1 rfl (Nat.le_of_ble_eq_true rfl) d_ClerkRows_agreement_10 ⟨(Nat.le_of_ble_eq_true rfl), (Nat.le_of_ble_eq_true rfl)⟩ (fun r hz => ?_)
    rcases hz with ⟨j2, hj2, hy1, hz⟩ | ⟨ny1, hz⟩
    · skip
      rw [(hrk j2 hj2).1] at hz
      subst hz
      have hkj2 : f (kAd (K j2)) = some (eJ (nI j2) (K j2)) := (hrk j2 hj2).2
      refine lv_ifnonnull (tgt := 20) hx hb d_ClerkRows_agreement_13 (by decide) ?_
      refine lv_iload_n hx hb d_ClerkRows_agreement_20 rfl (lv_at hl 3 rfl) ?_
      refine lv_iconst (v := 1) hx hb d_ClerkRows_agreement_21 (by decide) ?_
      refine wd_csi (As := [.int sd, .int 1]) (rest := []) X hK hw (c_ClerkRows_isWithin sd 1) (cw_ClerkRows_51 hts rfl rfl ⟨(Nat.le_of_ble_eq_true rfl), (Nat.le_of_ble_eq_true rfl)⟩) rfl hl.1 rfl (Nat.le_of_ble_eq_true rfl) d_ClerkRows_agreement_22 ⟨(Nat.le_of_ble_eq_true rfl), (Nat.le_of_ble_eq_true rfl)⟩ (fun r hz => ?_)
      rcases hz with ⟨z1, rfl⟩ | ⟨z1, rfl⟩
      · skip
        refine lv_if_eq (tgt := 33) hx hb d_ClerkRows_agreement_25 (by decide) (fun c2 => ?_) (fun c2 => ?_)
        · exact absurd c2 (by decide)
        · skip
          refine lv_iload_n hx hb d_ClerkRows_agreement_28 rfl (lv_at hl 1 rfl) ?_
          refine lv_iload_n hx hb d_ClerkRows_agreement_29 rfl (lv_at hl 2 rfl) ?_
          refine lv_icmp_ne (tgt := 37) hx hb d_ClerkRows_agreement_30 (by decide) (fun c3 => ?_) (fun c3 => ?_)
          · skip
            have hwi := z1
            have hxy := c3
            refine lv_lconst (v := 0) hx hb d_ClerkRows_agreement_37 (by decide) ?_
            refine lv_lstore (lv' := [(4, .long 0), (0, .ref a), (1, .int x), (2, .int y), (3, .int sd)]) hx hb d_ClerkRows_agreement_38 hl (by decide) rfl (fun ls hl => ?_)
            refine lv_lconst (v := 0) hx hb d_ClerkRows_agreement_40 (by decide) ?_
            refine lv_lstore (lv' := [(6, .long 0), (4, .long 0), (0, .ref a), (1, .int x), (2, .int y), (3, .int sd)]) hx hb d_ClerkRows_agreement_41 hl (by decide) rfl (fun ls hl => ?_)
            refine lv_aload_n hx hb d_ClerkRows_agreement_43 rfl (lv_at hl 2 rfl) ?_
            refine fg_ClerkRows_11 X hK hw ha d_ClerkRows_agreement_44 ?_
            refine lv_astore (lv' := [(8, .ref pa), (6, .long 0), (4, .long 0), (0, .ref a), (1, .int x), (2, .int y), (3, .int sd)]) hx hb d_ClerkRows_agreement_47 hl (by decide) rfl (fun ls hl => ?_)
            refine lv_aload hx hb d_ClerkRows_agreement_49 (lv_at hl 0 rfl) ?_
            refine wd_alen X hK hw hg 0 rfl (v := nI 300) rfl d_ClerkRows_agreement_51 ?_
            refine lv_istore (lv' := [(9, .int (nI 300)), (8, .ref pa), (6, .long 0), (4, .long 0), (0, .ref a), (1, .int x), (2, .int y), (3, .int sd)]) hx hb d_ClerkRows_agreement_52 hl (by decide) rfl (fun ls hl => ?_)
            refine lv_iconst (v := 0) hx hb d_ClerkRows_agreement_54 (by decide) ?_
            refine lv_istore (lv' := [(10, .int 0), (9, .int (nI 300)), (8, .ref pa), (6, .long 0), (4, .long 0), (0, .ref a), (1, .int x), (2, .int y), (3, .int sd)]) hx hb d_ClerkRows_agreement_55 hl (by decide) rfl (fun ls hl => ?_)
            have loop : ∀ (d i : Nat) (kb : Nat) (kc : Nat) (ls : Array Slot), n = i + d → kb = agB P x y i → kc = agA P x y i → lv_has ls 14 [(10, .int (nI i)), (4, .long (lN kb)), (6, .long (lN kc)), (8, .ref pa), (9, .int (nI 300)), (1, .int x), (2, .int y), (3, .int sd), (0, .ref a)] → W p l e rm_ClerkRows_agreement s m args below meth c s.heap [] 0 0 Q (F0 m 57 ls []) := by
              intro d
              induction d with
              | zero =>
                intro i kb kc ls hd hkb hkc hl
                have hin : i = n := by omega
                rcases Nat.lt_or_ge i 300 with h3 | h3
                · skip
                  refine lv_iload hx hb d_ClerkRows_agreement_57 (lv_at hl 0 rfl) ?_
                  refine lv_iload hx hb d_ClerkRows_agreement_59 (lv_at hl 4 rfl) ?_
                  refine lv_icmp_ge (tgt := 134) hx hb d_ClerkRows_agreement_61 (by decide) (fun c => absurd c (nI_ge h3 (by decide))) (fun _ => ?_)
                  refine lv_aload hx hb d_ClerkRows_agreement_64 (lv_at hl 3 rfl) ?_
                  refine lv_iload hx hb d_ClerkRows_agreement_66 (lv_at hl 0 rfl) ?_
                  refine wd_aldN X hK hw hg 0 rfl h3 (by decide) (hr.2.2 i (Nat.le_of_eq hin.symm)) d_ClerkRows_agreement_68 ?_
                  refine lv_astoreN (lv' := [(11, .null), (10, .int (nI i)), (4, .long (lN kb)), (6, .long (lN kc)), (8, .ref pa), (9, .int (nI 300)), (1, .int x), (2, .int y), (3, .int sd), (0, .ref a)]) hx hb d_ClerkRows_agreement_69 hl (by decide) rfl (fun ls hl => ?_)
                  refine lv_aloadN hx hb d_ClerkRows_agreement_71 (lv_at hl 0 rfl) ?_
                  refine lv_ifnonnullN hx hb d_ClerkRows_agreement_73 ?_
                  refine lv_goto (tgt := 134) hx hb d_ClerkRows_agreement_76 (by decide) ?_
                  refine lv_iload_n hx hb d_ClerkRows_agreement_134 rfl (lv_at hl 8 rfl) ?_
                  refine lv_iconst (v := 1) hx hb d_ClerkRows_agreement_135 (by decide) ?_
                  refine lv_icmp_ne (tgt := 144) hx hb d_ClerkRows_agreement_136 (by decide) (fun c4 => ?_) (fun c4 => ?_)
                  · skip
                    refine lv_lload hx hb d_ClerkRows_agreement_144 (lv_at hl 3 rfl) ?_
                    exact ret _ _ _ d_ClerkRows_agreement_146 (by rw [agr, if_neg (fun q => q ⟨(okK_of hj1 hx1), (okK_of hj2 hy1)⟩), if_neg (fun q => Or.elim q (fun z => z hwi) (fun z => hxy z)), if_neg c4, hkc, hin])
                  · skip
                    refine lv_lload hx hb d_ClerkRows_agreement_139 (lv_at hl 2 rfl) ?_
                    refine lv_goto (tgt := 146) hx hb d_ClerkRows_agreement_141 (by decide) ?_
                    exact ret _ _ _ d_ClerkRows_agreement_146 (by rw [agr, if_neg (fun q => q ⟨(okK_of hj1 hx1), (okK_of hj2 hy1)⟩), if_neg (fun q => Or.elim q (fun z => z hwi) (fun z => hxy z)), if_pos c4, hkb, hin])
                · skip
                  refine lv_iload hx hb d_ClerkRows_agreement_57 (lv_at hl 0 rfl) ?_
                  refine lv_iload hx hb d_ClerkRows_agreement_59 (lv_at hl 4 rfl) ?_
                  refine lv_icmp_ge (tgt := 134) hx hb d_ClerkRows_agreement_61 (by decide) (fun _ => ?_) (fun c => absurd (nI_le h3 (by rw [hin]; exact Nat.lt_of_le_of_lt hr.1 (by decide))) c)
                  refine lv_iload_n hx hb d_ClerkRows_agreement_134 rfl (lv_at hl 7 rfl) ?_
                  refine lv_iconst (v := 1) hx hb d_ClerkRows_agreement_135 (by decide) ?_
                  refine lv_icmp_ne (tgt := 144) hx hb d_ClerkRows_agreement_136 (by decide) (fun c5 => ?_) (fun c5 => ?_)
                  · skip
                    refine lv_lload hx hb d_ClerkRows_agreement_144 (lv_at hl 2 rfl) ?_
                    exact ret _ _ _ d_ClerkRows_agreement_146 (by rw [agr, if_neg (fun q => q ⟨(okK_of hj1 hx1), (okK_of hj2 hy1)⟩), if_neg (fun q => Or.elim q (fun z => z hwi) (fun z => hxy z)), if_neg c5, hkc, hin])
                  · skip
                    refine lv_lload hx hb d_ClerkRows_agreement_139 (lv_at hl 1 rfl) ?_
                    refine lv_goto (tgt := 146) hx hb d_ClerkRows_agreement_141 (by decide) ?_
                    exact ret _ _ _ d_ClerkRows_agreement_146 (by rw [agr, if_neg (fun q => q ⟨(okK_of hj1 hx1), (okK_of hj2 hy1)⟩), if_neg (fun q => Or.elim q (fun z => z hwi) (fun z => hxy z)), if_pos c5, hkb, hin])
              | succ d ih =>
                intro i kb kc ls hd hkb hkc hl
                have hin : i < n := by omega
                have h3 : i < 300 := Nat.lt_of_lt_of_le hin hr.1
                obtain ⟨hgi, la, hpi, hci⟩ := hr.2.1 i hin
                refine lv_iload hx hb d_ClerkRows_agreement_57 (lv_at hl 0 rfl) ?_
                refine lv_iload hx hb d_ClerkRows_agreement_59 (lv_at hl 4 rfl) ?_
                refine lv_icmp_ge (tgt := 134) hx hb d_ClerkRows_agreement_61 (by decide) (fun c => absurd c (nI_ge h3 (by decide))) (fun _ => ?_)
                refine lv_aload hx hb d_ClerkRows_agreement_64 (lv_at hl 3 rfl) ?_
                refine lv_iload hx hb d_ClerkRows_agreement_66 (lv_at hl 0 rfl) ?_
                refine wd_aldS X hK hw hg 0 rfl h3 (by decide) hgi d_ClerkRows_agreement_68 ?_
                refine lv_astore (lv' := [(11, .ref (pAd (P i))), (10, .int (nI i)), (4, .long (lN kb)), (6, .long (lN kc)), (8, .ref pa), (9, .int (nI 300)), (1, .int x), (2, .int y), (3, .int sd), (0, .ref a)]) hx hb d_ClerkRows_agreement_69 hl (by decide) rfl (fun ls hl => ?_)
                refine lv_aload hx hb d_ClerkRows_agreement_71 (lv_at hl 0 rfl) ?_
                refine lv_ifnonnull (tgt := 79) hx hb d_ClerkRows_agreement_73 (by decide) ?_
                refine lv_aload hx hb d_ClerkRows_agreement_79 (lv_at hl 0 rfl) ?_
                refine lv_iload_n hx hb d_ClerkRows_agreement_81 rfl (lv_at hl 6 rfl) ?_
                refine wd_cvi (As := [.int x]) (rest := []) X hK hw (c_Picture_findEntry (pAd (P i)) (nI (i + 1)) (pDu (P i)) (pSk (P i)) (pWa (P i)) (pAn (P i)) (pEn (P i)) (pSw (P i)) la hpi (pL (P i)) hci x) (cw_ClerkRows_125 hts rfl rfl ⟨(Nat.le_of_ble_eq_true rfl), (Nat.le_of_ble_eq_true rfl)⟩) hpi rfl rfl rfl hl.1 rfl (Nat.le_of_ble_eq_true rfl) d_ClerkRows_agreement_82 ⟨(Nat.le_of_ble_eq_true rfl), (Nat.le_of_ble_eq_true rfl)⟩ (fun r hz => ?_)
                subst hz
                refine lv_istore (lv' := [(12, .int (fndE x (pL (P i)))), (11, .ref (pAd (P i))), (10, .int (nI i)), (4, .long (lN kb)), (6, .long (lN kc)), (8, .ref pa), (9, .int (nI 300)), (1, .int x), (2, .int y), (3, .int sd), (0, .ref a)]) hx hb d_ClerkRows_agreement_85 hl (by decide) rfl (fun ls hl => ?_)
                refine lv_aload hx hb d_ClerkRows_agreement_87 (lv_at hl 1 rfl) ?_
                refine lv_iload_n hx hb d_ClerkRows_agreement_89 rfl (lv_at hl 8 rfl) ?_
                refine wd_cvi (As := [.int y]) (rest := []) X hK hw (c_Picture_findEntry (pAd (P i)) (nI (i + 1)) (pDu (P i)) (pSk (P i)) (pWa (P i)) (pAn (P i)) (pEn (P i)) (pSw (P i)) la hpi (pL (P i)) hci y) (cw_ClerkRows_125 hts rfl rfl ⟨(Nat.le_of_ble_eq_true rfl), (Nat.le_of_ble_eq_true rfl)⟩) hpi rfl rfl rfl hl.1 rfl (Nat.le_of_ble_eq_true rfl) d_ClerkRows_agreement_90 ⟨(Nat.le_of_ble_eq_true rfl), (Nat.le_of_ble_eq_true rfl)⟩ (fun r hz => ?_)
                subst hz
                refine lv_istore (lv' := [(13, .int (fndE y (pL (P i)))), (12, .int (fndE x (pL (P i)))), (11, .ref (pAd (P i))), (10, .int (nI i)), (4, .long (lN kb)), (6, .long (lN kc)), (8, .ref pa), (9, .int (nI 300)), (1, .int x), (2, .int y), (3, .int sd), (0, .ref a)]) hx hb d_ClerkRows_agreement_93 hl (by decide) rfl (fun ls hl => ?_)
                refine lv_iload hx hb d_ClerkRows_agreement_95 (lv_at hl 1 rfl) ?_
                refine lv_if_lt (tgt := 128) hx hb d_ClerkRows_agreement_97 (by decide) (fun c6 => ?_) (fun c6 => ?_)
                · skip
                  refine lv_iinc (v := ((nI i) + 1)) (lv' := [(10, .int ((nI i) + 1)), (13, .int (fndE y (pL (P i)))), (12, .int (fndE x (pL (P i)))), (11, .ref (pAd (P i))), (4, .long (lN kb)), (6, .long (lN kc)), (8, .ref pa), (9, .int (nI 300)), (1, .int x), (2, .int y), (3, .int sd), (0, .ref a)]) hx hb d_ClerkRows_agreement_128 hl (k := 3) rfl rfl (by decide) rfl (fun ls hl => ?_)
                  refine lv_goto (tgt := 57) hx hb d_ClerkRows_agreement_131 (by decide) ?_
                  exact ih (i + 1) kb kc ls (by omega) (by rw [hkb]; exact (if_neg (fun q => q.1 c6)).symm) (by rw [hkc]; exact (if_neg (fun q => (fun q => q.1 c6) q.1)).symm) (by rw [nI_succ i]; exact lv_sub hl [0, 4, 5, 6, 7, 8, 9, 10, 11] rfl)
                · skip
                  refine lv_iload hx hb d_ClerkRows_agreement_100 (lv_at hl 0 rfl) ?_
                  refine lv_if_lt (tgt := 128) hx hb d_ClerkRows_agreement_102 (by decide) (fun c7 => ?_) (fun c7 => ?_)
                  · skip
                    refine lv_iinc (v := ((nI i) + 1)) (lv' := [(10, .int ((nI i) + 1)), (13, .int (fndE y (pL (P i)))), (12, .int (fndE x (pL (P i)))), (11, .ref (pAd (P i))), (4, .long (lN kb)), (6, .long (lN kc)), (8, .ref pa), (9, .int (nI 300)), (1, .int x), (2, .int y), (3, .int sd), (0, .ref a)]) hx hb d_ClerkRows_agreement_128 hl (k := 3) rfl rfl (by decide) rfl (fun ls hl => ?_)
                    refine lv_goto (tgt := 57) hx hb d_ClerkRows_agreement_131 (by decide) ?_
                    exact ih (i + 1) kb kc ls (by omega) (by rw [hkb]; exact (if_neg (fun q => q.2 c7)).symm) (by rw [hkc]; exact (if_neg (fun q => (fun q => q.2 c7) q.1)).symm) (by rw [nI_succ i]; exact lv_sub hl [0, 4, 5, 6, 7, 8, 9, 10, 11] rfl)
                  · skip
                    refine lv_lload hx hb d_ClerkRows_agreement_105 (lv_at hl 4 rfl) ?_
                    refine lv_lconst (v := 1) hx hb d_ClerkRows_agreement_107 (by decide) ?_
                    refine lv_ladd hx hb d_ClerkRows_agreement_108 ?_
                    refine lv_lstore (lv' := [(4, .long ((lN kb) + 1)), (13, .int (fndE y (pL (P i)))), (12, .int (fndE x (pL (P i)))), (11, .ref (pAd (P i))), (10, .int (nI i)), (6, .long (lN kc)), (8, .ref pa), (9, .int (nI 300)), (1, .int x), (2, .int y), (3, .int sd), (0, .ref a)]) hx hb d_ClerkRows_agreement_109 hl (by decide) rfl (fun ls hl => ?_)
                    refine lv_lload hx hb d_ClerkRows_agreement_111 (lv_at hl 5 rfl) ?_
                    refine lv_iload hx hb d_ClerkRows_agreement_113 (lv_at hl 2 rfl) ?_
                    refine lv_iload hx hb d_ClerkRows_agreement_115 (lv_at hl 1 rfl) ?_
                    refine lv_icmp_ne (tgt := 124) hx hb d_ClerkRows_agreement_117 (by decide) (fun c8 => ?_) (fun c8 => ?_)
                    · skip
                      refine lv_lconst (v := 0) hx hb d_ClerkRows_agreement_124 (by decide) ?_
                      refine lv_ladd hx hb d_ClerkRows_agreement_125 ?_
                      refine lv_lstore (lv' := [(6, .long ((lN kc) + 0)), (4, .long ((lN kb) + 1)), (13, .int (fndE y (pL (P i)))), (12, .int (fndE x (pL (P i)))), (11, .ref (pAd (P i))), (10, .int (nI i)), (8, .ref pa), (9, .int (nI 300)), (1, .int x), (2, .int y), (3, .int sd), (0, .ref a)]) hx hb d_ClerkRows_agreement_126 hl (by decide) rfl (fun ls hl => ?_)
                      refine lv_iinc (v := ((nI i) + 1)) (lv' := [(10, .int ((nI i) + 1)), (6, .long ((lN kc) + 0)), (4, .long ((lN kb) + 1)), (13, .int (fndE y (pL (P i)))), (12, .int (fndE x (pL (P i)))), (11, .ref (pAd (P i))), (8, .ref pa), (9, .int (nI 300)), (1, .int x), (2, .int y), (3, .int sd), (0, .ref a)]) hx hb d_ClerkRows_agreement_128 hl (k := 5) rfl rfl (by decide) rfl (fun ls hl => ?_)
                      refine lv_goto (tgt := 57) hx hb d_ClerkRows_agreement_131 (by decide) ?_
                      exact ih (i + 1) (kb + 1) kc ls (by omega) (by rw [hkb]; exact (if_pos ⟨c6, c7⟩).symm) (by rw [hkc]; exact (if_neg (fun q => c8 q.2)).symm) (by rw [nI_succ i, lN_s kb, ← lN_z kc]; exact lv_sub hl [0, 2, 1, 6, 7, 8, 9, 10, 11] rfl)
                    · skip
                      refine lv_lconst (v := 1) hx hb d_ClerkRows_agreement_120 (by decide) ?_
                      refine lv_goto (tgt := 125) hx hb d_ClerkRows_agreement_121 (by decide) ?_
                      refine lv_ladd hx hb d_ClerkRows_agreement_125 ?_
                      refine lv_lstore (lv' := [(6, .long ((lN kc) + 1)), (4, .long ((lN kb) + 1)), (13, .int (fndE y (pL (P i)))), (12, .int (fndE x (pL (P i)))), (11, .ref (pAd (P i))), (10, .int (nI i)), (8, .ref pa), (9, .int (nI 300)), (1, .int x), (2, .int y), (3, .int sd), (0, .ref a)]) hx hb d_ClerkRows_agreement_126 hl (by decide) rfl (fun ls hl => ?_)
                      refine lv_iinc (v := ((nI i) + 1)) (lv' := [(10, .int ((nI i) + 1)), (6, .long ((lN kc) + 1)), (4, .long ((lN kb) + 1)), (13, .int (fndE y (pL (P i)))), (12, .int (fndE x (pL (P i)))), (11, .ref (pAd (P i))), (8, .ref pa), (9, .int (nI 300)), (1, .int x), (2, .int y), (3, .int sd), (0, .ref a)]) hx hb d_ClerkRows_agreement_128 hl (k := 5) rfl rfl (by decide) rfl (fun ls hl => ?_)
                      refine lv_goto (tgt := 57) hx hb d_ClerkRows_agreement_131 (by decide) ?_
                      exact ih (i + 1) (kb + 1) (kc + 1) ls (by omega) (by rw [hkb]; exact (if_pos ⟨c6, c7⟩).symm) (by rw [hkc]; exact (if_pos ⟨⟨c6, c7⟩, c8⟩).symm) (by rw [nI_succ i, lN_s kb, lN_s kc]; exact lv_sub hl [0, 2, 1, 6, 7, 8, 9, 10, 11] rfl)
            exact loop n 0 0 0 ls (Nat.zero_add n).symm rfl rfl (lv_sub hl [0, 4, 3, 2, 1, 6, 7, 8, 5] rfl)
          · skip
            refine lv_ldc2 (v := (-102)) hx hb hown (hts _ k_ClerkRows_123) d_ClerkRows_agreement_33 ?_
            exact ret _ _ _ d_ClerkRows_agreement_36 (by rw [agr, if_neg (fun q => q ⟨(okK_of hj1 hx1), (okK_of hj2 hy1)⟩), if_pos (Or.inr c3)])
      · skip
        refine lv_if_eq (tgt := 33) hx hb d_ClerkRows_agreement_25 (by decide) (fun c9 => ?_) (fun c9 => ?_)
        · skip
          refine lv_ldc2 (v := (-102)) hx hb hown (hts _ k_ClerkRows_123) d_ClerkRows_agreement_33 ?_
          exact ret _ _ _ d_ClerkRows_agreement_36 (by rw [agr, if_neg (fun q => q ⟨(okK_of hj1 hx1), (okK_of hj2 hy1)⟩), if_pos (Or.inl z1)])
        · exact absurd c9 (by decide)
    · skip
      subst hz
      refine lv_ifnonnullN hx hb d_ClerkRows_agreement_13 ?_
      refine lv_ldc2 (v := (-101)) hx hb hown (hts _ k_ClerkRows_121) d_ClerkRows_agreement_16 ?_
      exact ret _ _ _ d_ClerkRows_agreement_19 (by rw [agr, if_pos (fun q => ny1 q.2)])
  · skip
    subst hz
    refine lv_ifnullN (tgt := 16) hx hb d_ClerkRows_agreement_5 (by decide) ?_
    refine lv_ldc2 (v := (-101)) hx hb hown (hts _ k_ClerkRows_121) d_ClerkRows_agreement_16 ?_
    exact ret _ _ _ d_ClerkRows_agreement_19 (by rw [agr, if_pos (fun q => nx1 q.1)])
end
section
abbrev rm_ClerkRows_settled : Room := { frames := 1, cells := 0, slots := 0, locals := 21 }
set_option maxHeartbeats 4000000 in
set_option maxRecDepth 100000 in
theorem c_ClerkRows_settled {l : Launch} {D : va_G} {ca : Nat → ClassId} {f : wd_M} (a : Nat) (mo : Int32) (pa ka : Nat) (md : Int32) (nw : Int64) (lt : Int32) (ha : f a = some (eR mo pa ka md nw lt)) (gp : Nat → Option Nat) (hg : f pa = some (eA (ca 0) 300 gp)) (n : Nat) (P : Nat → PT) (hr : rp f gp n P) (x : Int32) : Met l y_ClerkRows_settled (.code y_ClerkRows_settled b_ClerkRows_settled 3 (some .int) :: tb) rm_ClerkRows_settled (va_Pc [.ref a, .int x] (wd_pre D classes (ty ca) f)) (vp_Si (fun r => (∃ i : Nat, i < n ∧ x = nI (i + 1) ∧ r = if pEn (P i) = 0 then -1 else pSw (P i)) ∨ ((∀ i : Nat, i < n → x ≠ nI (i + 1)) ∧ r = -101))) 0 0 (fun _ => False) := by
  refine wd_Si (own := R_ClerkRows) (by decide) rfl (Nat.le_of_ble_eq_true rfl) ?_
  intro p e s m args below meth c Q X hK hw ret ls hl
  have hx := X.1
  have hb := X.2.1
  have hown := X.2.2.2.1
  have hts := X.2.2.2.2
  have hl : lv_has ls 3 [(0, .ref a), (1, .int x)] := hl
  refine lv_aload_n hx hb d_ClerkRows_settled_0 rfl (lv_at hl 0 rfl) ?_
  refine lv_iload_n hx hb d_ClerkRows_settled_1 rfl (lv_at hl 1 rfl) ?_
  refine wd_cvq (As := [.int x]) (rest := []) X hK hw (c_ClerkRows_findPicture a mo pa ka md nw lt ha gp hg x) (cw_ClerkRows_89 hts rfl rfl ⟨(Nat.le_of_ble_eq_true rfl), (Nat.le_of_ble_eq_true rfl)⟩) ha rfl rfl rfl hl.1 rfl (Nat.le_of_ble_eq_true rfl) d_ClerkRows_settled_2 ⟨(Nat.le_of_ble_eq_true rfl), (Nat.le_of_ble_eq_true rfl)⟩ (fun r hz => ?_)
  rcases hz with ⟨i, hi, hxi, hz⟩ | ⟨nxi, hz⟩
  · skip
    rcases Nat.lt_or_ge i n with hin | hin
    · skip
      obtain ⟨hgi, la, hpi, hci⟩ := hr.2.1 i hin
      rw [hgi] at hz
      subst hz
      refine lv_astore_n (lv' := [(2, .ref (pAd (P i))), (0, .ref a), (1, .int x)]) hx hb d_ClerkRows_settled_5 rfl hl (by decide) rfl (fun ls hl => ?_)
      refine lv_aload_n hx hb d_ClerkRows_settled_6 rfl (lv_at hl 0 rfl) ?_
      refine lv_ifnonnull (tgt := 13) hx hb d_ClerkRows_settled_7 (by decide) ?_
      refine lv_aload_n hx hb d_ClerkRows_settled_13 rfl (lv_at hl 0 rfl) ?_
      refine wd_cvi (As := []) (rest := []) X hK hw (c_Picture_hasEnded (pAd (P i)) (nI (i + 1)) (pDu (P i)) (pSk (P i)) (pWa (P i)) (pAn (P i)) (pEn (P i)) (pSw (P i)) la hpi) (cw_ClerkRows_114 hts rfl rfl ⟨(Nat.le_of_ble_eq_true rfl), (Nat.le_of_ble_eq_true rfl)⟩) hpi rfl rfl rfl hl.1 rfl (Nat.le_of_ble_eq_true rfl) d_ClerkRows_settled_14 ⟨(Nat.le_of_ble_eq_true rfl), (Nat.le_of_ble_eq_true rfl)⟩ (fun r hz => ?_)
      rcases hz with ⟨z1, rfl⟩ | ⟨z1, rfl⟩
      · skip
        refine lv_if_ne (tgt := 22) hx hb d_ClerkRows_settled_17 (by decide) (fun c2 => ?_) (fun c2 => ?_)
        · skip
          refine lv_aload_n hx hb d_ClerkRows_settled_22 rfl (lv_at hl 0 rfl) ?_
          refine fg_ClerkRows_118 X hK hw hpi d_ClerkRows_settled_23 ?_
          exact ret _ _ _ d_ClerkRows_settled_26 (Or.inl ⟨i, hin, hxi, by rw [if_neg z1]⟩)
        · exact absurd c2 (by decide)
      · skip
        refine lv_if_ne (tgt := 22) hx hb d_ClerkRows_settled_17 (by decide) (fun c3 => ?_) (fun c3 => ?_)
        · exact absurd c3 (by decide)
        · skip
          refine lv_iconst (v := (-1)) hx hb d_ClerkRows_settled_20 (by decide) ?_
          exact ret _ _ _ d_ClerkRows_settled_21 (Or.inl ⟨i, hin, hxi, by rw [if_pos (Decidable.not_not.mp z1)]⟩)
    · skip
      rw [hr.2.2 i hin] at hz
      subst hz
      refine lv_astore_nN (lv' := [(2, .null), (0, .ref a), (1, .int x)]) hx hb d_ClerkRows_settled_5 rfl hl (by decide) rfl (fun ls hl => ?_)
      refine lv_aload_nN hx hb d_ClerkRows_settled_6 rfl (lv_at hl 0 rfl) ?_
      refine lv_ifnonnullN hx hb d_ClerkRows_settled_7 ?_
      refine lv_bipush (v := (-101)) hx hb d_ClerkRows_settled_10 (by decide) ?_
      exact ret _ _ _ d_ClerkRows_settled_12 (Or.inr ⟨(no_Q hr.1 hi hxi hin), rfl⟩)
  · skip
    subst hz
    refine lv_astore_nN (lv' := [(2, .null), (0, .ref a), (1, .int x)]) hx hb d_ClerkRows_settled_5 rfl hl (by decide) rfl (fun ls hl => ?_)
    refine lv_aload_nN hx hb d_ClerkRows_settled_6 rfl (lv_at hl 0 rfl) ?_
    refine lv_ifnonnullN hx hb d_ClerkRows_settled_7 ?_
    refine lv_bipush (v := (-101)) hx hb d_ClerkRows_settled_10 (by decide) ?_
    exact ret _ _ _ d_ClerkRows_settled_12 (Or.inr ⟨(no_P hr.1 nxi), rfl⟩)

abbrev rm_ClerkRows_state : Room := { frames := 2, cells := 0, slots := 0, locals := 42 }
set_option maxHeartbeats 4000000 in
set_option maxRecDepth 100000 in
theorem c_ClerkRows_state {l : Launch} {D : va_G} {ca : Nat → ClassId} {f : wd_M} (a : Nat) (mo : Int32) (pa ka : Nat) (md : Int32) (nw : Int64) (lt : Int32) (ha : f a = some (eR mo pa ka md nw lt)) (gp : Nat → Option Nat) (hg : f pa = some (eA (ca 0) 300 gp)) (n : Nat) (P : Nat → PT) (hr : rp f gp n P) (x : Int32) : Met l y_ClerkRows_state (.code y_ClerkRows_state b_ClerkRows_state 3 (some .int) :: tb) rm_ClerkRows_state (va_Pc [.ref a, .int x] (wd_pre D classes (ty ca) f)) (vp_Si (fun r => (∃ i : Nat, i < n ∧ x = nI (i + 1) ∧ r = stt (pEn (P i)) (pWa (P i)) (tk (pL (P i)))) ∨ ((∀ i : Nat, i < n → x ≠ nI (i + 1)) ∧ r = -101))) 0 0 (fun _ => False) := by
  refine wd_Si (own := R_ClerkRows) (by decide) rfl (Nat.le_of_ble_eq_true rfl) ?_
  intro p e s m args below meth c Q X hK hw ret ls hl
  have hx := X.1
  have hb := X.2.1
  have hown := X.2.2.2.1
  have hts := X.2.2.2.2
  have hl : lv_has ls 3 [(0, .ref a), (1, .int x)] := hl
  refine lv_aload_n hx hb d_ClerkRows_state_0 rfl (lv_at hl 0 rfl) ?_
  refine lv_iload_n hx hb d_ClerkRows_state_1 rfl (lv_at hl 1 rfl) ?_
  refine wd_cvq (As := [.int x]) (rest := []) X hK hw (c_ClerkRows_findPicture a mo pa ka md nw lt ha gp hg x) (cw_ClerkRows_89 hts rfl rfl ⟨(Nat.le_of_ble_eq_true rfl), (Nat.le_of_ble_eq_true rfl)⟩) ha rfl rfl rfl hl.1 rfl (Nat.le_of_ble_eq_true rfl) d_ClerkRows_state_2 ⟨(Nat.le_of_ble_eq_true rfl), (Nat.le_of_ble_eq_true rfl)⟩ (fun r hz => ?_)
  rcases hz with ⟨i, hi, hxi, hz⟩ | ⟨nxi, hz⟩
  · skip
    rcases Nat.lt_or_ge i n with hin | hin
    · skip
      obtain ⟨hgi, la, hpi, hci⟩ := hr.2.1 i hin
      rw [hgi] at hz
      subst hz
      refine lv_astore_n (lv' := [(2, .ref (pAd (P i))), (0, .ref a), (1, .int x)]) hx hb d_ClerkRows_state_5 rfl hl (by decide) rfl (fun ls hl => ?_)
      refine lv_aload_n hx hb d_ClerkRows_state_6 rfl (lv_at hl 0 rfl) ?_
      refine lv_ifnonnull (tgt := 13) hx hb d_ClerkRows_state_7 (by decide) ?_
      refine lv_aload_n hx hb d_ClerkRows_state_13 rfl (lv_at hl 0 rfl) ?_
      refine wd_cvi (As := []) (rest := []) X hK hw (c_Picture_findState (pAd (P i)) (nI (i + 1)) (pDu (P i)) (pSk (P i)) (pWa (P i)) (pAn (P i)) (pEn (P i)) (pSw (P i)) la hpi (pL (P i)) hci) (cw_ClerkRows_102 hts rfl rfl ⟨(Nat.le_of_ble_eq_true rfl), (Nat.le_of_ble_eq_true rfl)⟩) hpi rfl rfl rfl hl.1 rfl (Nat.le_of_ble_eq_true rfl) d_ClerkRows_state_14 ⟨(Nat.le_of_ble_eq_true rfl), (Nat.le_of_ble_eq_true rfl)⟩ (fun r hz => ?_)
      subst hz
      exact ret _ _ _ d_ClerkRows_state_17 (Or.inl ⟨i, hin, hxi, rfl⟩)
    · skip
      rw [hr.2.2 i hin] at hz
      subst hz
      refine lv_astore_nN (lv' := [(2, .null), (0, .ref a), (1, .int x)]) hx hb d_ClerkRows_state_5 rfl hl (by decide) rfl (fun ls hl => ?_)
      refine lv_aload_nN hx hb d_ClerkRows_state_6 rfl (lv_at hl 0 rfl) ?_
      refine lv_ifnonnullN hx hb d_ClerkRows_state_7 ?_
      refine lv_bipush (v := (-101)) hx hb d_ClerkRows_state_10 (by decide) ?_
      exact ret _ _ _ d_ClerkRows_state_12 (Or.inr ⟨(no_Q hr.1 hi hxi hin), rfl⟩)
  · skip
    subst hz
    refine lv_astore_nN (lv' := [(2, .null), (0, .ref a), (1, .int x)]) hx hb d_ClerkRows_state_5 rfl hl (by decide) rfl (fun ls hl => ?_)
    refine lv_aload_nN hx hb d_ClerkRows_state_6 rfl (lv_at hl 0 rfl) ?_
    refine lv_ifnonnullN hx hb d_ClerkRows_state_7 ?_
    refine lv_bipush (v := (-101)) hx hb d_ClerkRows_state_10 (by decide) ?_
    exact ret _ _ _ d_ClerkRows_state_12 (Or.inr ⟨(no_P hr.1 nxi), rfl⟩)

abbrev rm_ClerkRows_office : Room := { frames := 1, cells := 0, slots := 0, locals := 21 }
set_option maxHeartbeats 4000000 in
set_option maxRecDepth 100000 in
theorem c_ClerkRows_office {l : Launch} {D : va_G} {ca : Nat → ClassId} {f : wd_M} {sz : Nat} (a : Nat) (mo : Int32) (pa ka : Nat) (md : Int32) (nw : Int64) (lt : Int32) (ha : f a = some (eR mo pa ka md nw lt)) (gk : Nat → Option Nat) (K : Nat → KT) (hgk : f ka = some (eA (ca 1) 20 gk)) (hrk : rk f gk K) (x of sk : Int32) : Met l y_ClerkRows_office (.code y_ClerkRows_office b_ClerkRows_office 5 (some .int) :: tb) rm_ClerkRows_office (va_Pc [.ref a, .int x, .int of, .int sk] (wd_preZ D classes (ty ca) f sz)) (va_Qi (fun r f' => ((∀ j : Nat, j < 20 → x ≠ nI j) ∧ r = -101 ∧ f' = f) ∨ ∃ j : Nat, j < 20 ∧ x = nI j ∧ ((¬ (wi of 4 ∧ wi sk 3) ∧ r = -102 ∧ f' = f) ∨ ((wi of 4 ∧ wi sk 3) ∧ (((¬ kIn (K j) = 0 ∧ kOf (K j) = of ∧ kSk (K j) = sk) ∧ r = 0 ∧ f' = f) ∨ (¬ (¬ kIn (K j) = 0 ∧ kOf (K j) = of ∧ kSk (K j) = sk) ∧ r = 1 ∧ f' = wd_up f (kAd (K j)) (eK (nI j) 1 of sk (kTu (K j)))))))) (wd_B D classes f sz) (wd_A f sz)) 0 0 (wd_A f sz) := by
  refine wd_Qi (own := R_ClerkRows) (by decide) rfl (Nat.le_of_ble_eq_true rfl) ?_
  intro p e s m args below meth c Q X hK hw ret ls hl
  have hx := X.1
  have hb := X.2.1
  have hown := X.2.2.2.1
  have hts := X.2.2.2.2
  have hl : lv_has ls 5 [(0, .ref a), (1, .int x), (2, .int of), (3, .int sk)] := hl
  refine lv_aload_n hx hb d_ClerkRows_office_0 rfl (lv_at hl 0 rfl) ?_
  refine lv_iload_n hx hb d_ClerkRows_office_1 rfl (lv_at hl 1 rfl) ?_
  refine wd_cvq (As := [.int x]) (rest := []) X hK hw (c_ClerkRows_findClerk a mo pa ka md nw lt ha gk hgk x) (cw_ClerkRows_62 hts rfl rfl ⟨(Nat.le_of_ble_eq_true rfl), (Nat.le_of_ble_eq_true rfl)⟩) ha rfl rfl rfl hl.1 rfl (Nat.le_of_ble_eq_true rfl) d_ClerkRows_office_2 ⟨(Nat.le_of_ble_eq_true rfl), (Nat.le_of_ble_eq_true rfl)⟩ (fun r hz => ?_)
  rcases hz with ⟨j, hj, hxj, hz⟩ | ⟨nxj, hz⟩
  · skip
    rw [(hrk j hj).1] at hz
    subst hz
    have hkj : f (kAd (K j)) = some (eJ (nI j) (K j)) := (hrk j hj).2
    refine lv_astore (lv' := [(4, .ref (kAd (K j))), (0, .ref a), (1, .int x), (2, .int of), (3, .int sk)]) hx hb d_ClerkRows_office_5 hl (by decide) rfl (fun ls hl => ?_)
    refine lv_aload hx hb d_ClerkRows_office_7 (lv_at hl 0 rfl) ?_
    refine lv_ifnonnull (tgt := 15) hx hb d_ClerkRows_office_9 (by decide) ?_
    refine lv_iload_n hx hb d_ClerkRows_office_15 rfl (lv_at hl 3 rfl) ?_
    refine lv_iconst (v := 4) hx hb d_ClerkRows_office_16 (by decide) ?_
    refine wd_csi (As := [.int of, .int 4]) (rest := []) X hK hw (c_ClerkRows_isWithin of 4) (cw_ClerkRows_51 hts rfl rfl ⟨(Nat.le_of_ble_eq_true rfl), (Nat.le_of_ble_eq_true rfl)⟩) rfl hl.1 rfl (Nat.le_of_ble_eq_true rfl) d_ClerkRows_office_17 ⟨(Nat.le_of_ble_eq_true rfl), (Nat.le_of_ble_eq_true rfl)⟩ (fun r hz => ?_)
    rcases hz with ⟨z1, rfl⟩ | ⟨z1, rfl⟩
    · skip
      refine lv_if_eq (tgt := 31) hx hb d_ClerkRows_office_20 (by decide) (fun c2 => ?_) (fun c2 => ?_)
      · exact absurd c2 (by decide)
      · skip
        refine lv_iload_n hx hb d_ClerkRows_office_23 rfl (lv_at hl 4 rfl) ?_
        refine lv_iconst (v := 3) hx hb d_ClerkRows_office_24 (by decide) ?_
        refine wd_csi (As := [.int sk, .int 3]) (rest := []) X hK hw (c_ClerkRows_isWithin sk 3) (cw_ClerkRows_51 hts rfl rfl ⟨(Nat.le_of_ble_eq_true rfl), (Nat.le_of_ble_eq_true rfl)⟩) rfl hl.1 rfl (Nat.le_of_ble_eq_true rfl) d_ClerkRows_office_25 ⟨(Nat.le_of_ble_eq_true rfl), (Nat.le_of_ble_eq_true rfl)⟩ (fun r hz => ?_)
        rcases hz with ⟨z3, rfl⟩ | ⟨z3, rfl⟩
        · skip
          refine lv_if_ne (tgt := 34) hx hb d_ClerkRows_office_28 (by decide) (fun c4 => ?_) (fun c4 => ?_)
          · skip
            refine lv_aload hx hb d_ClerkRows_office_34 (lv_at hl 0 rfl) ?_
            refine fg_ClerkRows_66 X hK hw hkj d_ClerkRows_office_36 ?_
            refine lv_if_eq (tgt := 62) hx hb d_ClerkRows_office_39 (by decide) (fun c5 => ?_) (fun c5 => ?_)
            · skip
              refine lv_aload hx hb d_ClerkRows_office_62 (lv_at hl 0 rfl) ?_
              refine lv_iconst (v := 1) hx hb d_ClerkRows_office_64 (by decide) ?_
              refine fp_ClerkRows_66 X hK hw hkj rfl rfl d_ClerkRows_office_65 (fun f6 H locs ef6 hw => ?_)
              have ha : f6 a = some (eR mo pa ka md nw lt) := by rw [ef6, wd_un (wd_ne ha hkj (by decide))]; exact ha
              have hgk : f6 ka = some (eA (ca 1) 20 gk) := by rw [ef6, wd_un (Ne.symm (wd_neA hkj hgk))]; exact hgk
              have hkj : f6 (kAd (K j)) = some (eK (nI j) 1 (kOf (K j)) (kSk (K j)) (kTu (K j))) := by rw [ef6]; exact wd_us
              refine lv_aload hx hb d_ClerkRows_office_68 (lv_at hl 0 rfl) ?_
              refine lv_iload_n hx hb d_ClerkRows_office_70 rfl (lv_at hl 3 rfl) ?_
              refine fp_ClerkRows_105 X hK hw hkj rfl rfl d_ClerkRows_office_71 (fun f7 H locs ef7 hw => ?_)
              have ha : f7 a = some (eR mo pa ka md nw lt) := by rw [ef7, wd_un (wd_ne ha hkj (by decide))]; exact ha
              have hgk : f7 ka = some (eA (ca 1) 20 gk) := by rw [ef7, wd_un (Ne.symm (wd_neA hkj hgk))]; exact hgk
              have hkj : f7 (kAd (K j)) = some (eK (nI j) 1 of (kSk (K j)) (kTu (K j))) := by rw [ef7]; exact wd_us
              refine lv_aload hx hb d_ClerkRows_office_74 (lv_at hl 0 rfl) ?_
              refine lv_iload_n hx hb d_ClerkRows_office_76 rfl (lv_at hl 4 rfl) ?_
              refine fp_ClerkRows_108 X hK hw hkj rfl rfl d_ClerkRows_office_77 (fun f8 H locs ef8 hw => ?_)
              have ha : f8 a = some (eR mo pa ka md nw lt) := by rw [ef8, wd_un (wd_ne ha hkj (by decide))]; exact ha
              have hgk : f8 ka = some (eA (ca 1) 20 gk) := by rw [ef8, wd_un (Ne.symm (wd_neA hkj hgk))]; exact hgk
              have hkj : f8 (kAd (K j)) = some (eK (nI j) 1 of sk (kTu (K j))) := by rw [ef8]; exact wd_us
              refine lv_iconst (v := 1) hx hb d_ClerkRows_office_80 (by decide) ?_
              exact ret _ _ _ _ _ _ d_ClerkRows_office_81 hw (Or.inr ⟨j, hj, hxj, Or.inr ⟨⟨z1, z3⟩, Or.inr ⟨(fun q => q.1 c5), rfl, by rw [ef8, ef7, ef6]; (try simp only [wd_uu]); try rfl⟩⟩⟩)
            · skip
              refine lv_aload hx hb d_ClerkRows_office_42 (lv_at hl 0 rfl) ?_
              refine fg_ClerkRows_105 X hK hw hkj d_ClerkRows_office_44 ?_
              refine lv_iload_n hx hb d_ClerkRows_office_47 rfl (lv_at hl 3 rfl) ?_
              refine lv_icmp_ne (tgt := 62) hx hb d_ClerkRows_office_48 (by decide) (fun c9 => ?_) (fun c9 => ?_)
              · skip
                refine lv_aload hx hb d_ClerkRows_office_62 (lv_at hl 0 rfl) ?_
                refine lv_iconst (v := 1) hx hb d_ClerkRows_office_64 (by decide) ?_
                refine fp_ClerkRows_66 X hK hw hkj rfl rfl d_ClerkRows_office_65 (fun f10 H locs ef10 hw => ?_)
                have ha : f10 a = some (eR mo pa ka md nw lt) := by rw [ef10, wd_un (wd_ne ha hkj (by decide))]; exact ha
                have hgk : f10 ka = some (eA (ca 1) 20 gk) := by rw [ef10, wd_un (Ne.symm (wd_neA hkj hgk))]; exact hgk
                have hkj : f10 (kAd (K j)) = some (eK (nI j) 1 (kOf (K j)) (kSk (K j)) (kTu (K j))) := by rw [ef10]; exact wd_us
                refine lv_aload hx hb d_ClerkRows_office_68 (lv_at hl 0 rfl) ?_
                refine lv_iload_n hx hb d_ClerkRows_office_70 rfl (lv_at hl 3 rfl) ?_
                refine fp_ClerkRows_105 X hK hw hkj rfl rfl d_ClerkRows_office_71 (fun f11 H locs ef11 hw => ?_)
                have ha : f11 a = some (eR mo pa ka md nw lt) := by rw [ef11, wd_un (wd_ne ha hkj (by decide))]; exact ha
                have hgk : f11 ka = some (eA (ca 1) 20 gk) := by rw [ef11, wd_un (Ne.symm (wd_neA hkj hgk))]; exact hgk
                have hkj : f11 (kAd (K j)) = some (eK (nI j) 1 of (kSk (K j)) (kTu (K j))) := by rw [ef11]; exact wd_us
                refine lv_aload hx hb d_ClerkRows_office_74 (lv_at hl 0 rfl) ?_
                refine lv_iload_n hx hb d_ClerkRows_office_76 rfl (lv_at hl 4 rfl) ?_
                refine fp_ClerkRows_108 X hK hw hkj rfl rfl d_ClerkRows_office_77 (fun f12 H locs ef12 hw => ?_)
                have ha : f12 a = some (eR mo pa ka md nw lt) := by rw [ef12, wd_un (wd_ne ha hkj (by decide))]; exact ha
                have hgk : f12 ka = some (eA (ca 1) 20 gk) := by rw [ef12, wd_un (Ne.symm (wd_neA hkj hgk))]; exact hgk
                have hkj : f12 (kAd (K j)) = some (eK (nI j) 1 of sk (kTu (K j))) := by rw [ef12]; exact wd_us
                refine lv_iconst (v := 1) hx hb d_ClerkRows_office_80 (by decide) ?_
                exact ret _ _ _ _ _ _ d_ClerkRows_office_81 hw (Or.inr ⟨j, hj, hxj, Or.inr ⟨⟨z1, z3⟩, Or.inr ⟨(fun q => c9 q.2.1), rfl, by rw [ef12, ef11, ef10]; (try simp only [wd_uu]); try rfl⟩⟩⟩)
              · skip
                refine lv_aload hx hb d_ClerkRows_office_51 (lv_at hl 0 rfl) ?_
                refine fg_ClerkRows_108 X hK hw hkj d_ClerkRows_office_53 ?_
                refine lv_iload_n hx hb d_ClerkRows_office_56 rfl (lv_at hl 4 rfl) ?_
                refine lv_icmp_ne (tgt := 62) hx hb d_ClerkRows_office_57 (by decide) (fun c13 => ?_) (fun c13 => ?_)
                · skip
                  refine lv_aload hx hb d_ClerkRows_office_62 (lv_at hl 0 rfl) ?_
                  refine lv_iconst (v := 1) hx hb d_ClerkRows_office_64 (by decide) ?_
                  refine fp_ClerkRows_66 X hK hw hkj rfl rfl d_ClerkRows_office_65 (fun f14 H locs ef14 hw => ?_)
                  have ha : f14 a = some (eR mo pa ka md nw lt) := by rw [ef14, wd_un (wd_ne ha hkj (by decide))]; exact ha
                  have hgk : f14 ka = some (eA (ca 1) 20 gk) := by rw [ef14, wd_un (Ne.symm (wd_neA hkj hgk))]; exact hgk
                  have hkj : f14 (kAd (K j)) = some (eK (nI j) 1 (kOf (K j)) (kSk (K j)) (kTu (K j))) := by rw [ef14]; exact wd_us
                  refine lv_aload hx hb d_ClerkRows_office_68 (lv_at hl 0 rfl) ?_
                  refine lv_iload_n hx hb d_ClerkRows_office_70 rfl (lv_at hl 3 rfl) ?_
                  refine fp_ClerkRows_105 X hK hw hkj rfl rfl d_ClerkRows_office_71 (fun f15 H locs ef15 hw => ?_)
                  have ha : f15 a = some (eR mo pa ka md nw lt) := by rw [ef15, wd_un (wd_ne ha hkj (by decide))]; exact ha
                  have hgk : f15 ka = some (eA (ca 1) 20 gk) := by rw [ef15, wd_un (Ne.symm (wd_neA hkj hgk))]; exact hgk
                  have hkj : f15 (kAd (K j)) = some (eK (nI j) 1 of (kSk (K j)) (kTu (K j))) := by rw [ef15]; exact wd_us
                  refine lv_aload hx hb d_ClerkRows_office_74 (lv_at hl 0 rfl) ?_
                  refine lv_iload_n hx hb d_ClerkRows_office_76 rfl (lv_at hl 4 rfl) ?_
                  refine fp_ClerkRows_108 X hK hw hkj rfl rfl d_ClerkRows_office_77 (fun f16 H locs ef16 hw => ?_)
                  have ha : f16 a = some (eR mo pa ka md nw lt) := by rw [ef16, wd_un (wd_ne ha hkj (by decide))]; exact ha
                  have hgk : f16 ka = some (eA (ca 1) 20 gk) := by rw [ef16, wd_un (Ne.symm (wd_neA hkj hgk))]; exact hgk
                  have hkj : f16 (kAd (K j)) = some (eK (nI j) 1 of sk (kTu (K j))) := by rw [ef16]; exact wd_us
                  refine lv_iconst (v := 1) hx hb d_ClerkRows_office_80 (by decide) ?_
                  exact ret _ _ _ _ _ _ d_ClerkRows_office_81 hw (Or.inr ⟨j, hj, hxj, Or.inr ⟨⟨z1, z3⟩, Or.inr ⟨(fun q => c13 q.2.2), rfl, by rw [ef16, ef15, ef14]; (try simp only [wd_uu]); try rfl⟩⟩⟩)
                · skip
                  refine lv_iconst (v := 0) hx hb d_ClerkRows_office_60 (by decide) ?_
                  exact ret _ _ _ _ _ _ d_ClerkRows_office_61 hw (Or.inr ⟨j, hj, hxj, Or.inr ⟨⟨z1, z3⟩, Or.inl ⟨⟨c5, c9, c13⟩, rfl, rfl⟩⟩⟩)
          · exact absurd c4 (by decide)
        · skip
          refine lv_if_ne (tgt := 34) hx hb d_ClerkRows_office_28 (by decide) (fun c17 => ?_) (fun c17 => ?_)
          · exact absurd c17 (by decide)
          · skip
            refine lv_bipush (v := (-102)) hx hb d_ClerkRows_office_31 (by decide) ?_
            exact ret _ _ _ _ _ _ d_ClerkRows_office_33 hw (Or.inr ⟨j, hj, hxj, Or.inl ⟨(fun q => z3 q.2), rfl, rfl⟩⟩)
    · skip
      refine lv_if_eq (tgt := 31) hx hb d_ClerkRows_office_20 (by decide) (fun c18 => ?_) (fun c18 => ?_)
      · skip
        refine lv_bipush (v := (-102)) hx hb d_ClerkRows_office_31 (by decide) ?_
        exact ret _ _ _ _ _ _ d_ClerkRows_office_33 hw (Or.inr ⟨j, hj, hxj, Or.inl ⟨(fun q => z1 q.1), rfl, rfl⟩⟩)
      · exact absurd c18 (by decide)
  · skip
    subst hz
    refine lv_astoreN (lv' := [(4, .null), (0, .ref a), (1, .int x), (2, .int of), (3, .int sk)]) hx hb d_ClerkRows_office_5 hl (by decide) rfl (fun ls hl => ?_)
    refine lv_aloadN hx hb d_ClerkRows_office_7 (lv_at hl 0 rfl) ?_
    refine lv_ifnonnullN hx hb d_ClerkRows_office_9 ?_
    refine lv_bipush (v := (-101)) hx hb d_ClerkRows_office_12 (by decide) ?_
    exact ret _ _ _ _ _ _ d_ClerkRows_office_14 hw (Or.inl ⟨no_K nxj, rfl, rfl⟩)

abbrev rm_ClerkRows_leave : Room := { frames := 1, cells := 0, slots := 0, locals := 21 }
set_option maxHeartbeats 4000000 in
set_option maxRecDepth 100000 in
theorem c_ClerkRows_leave {l : Launch} {D : va_G} {ca : Nat → ClassId} {f : wd_M} {sz : Nat} (a : Nat) (mo : Int32) (pa ka : Nat) (md : Int32) (nw : Int64) (lt : Int32) (ha : f a = some (eR mo pa ka md nw lt)) (gk : Nat → Option Nat) (K : Nat → KT) (hgk : f ka = some (eA (ca 1) 20 gk)) (hrk : rk f gk K) (hT : ∀ j : Nat, j < 20 → ∀ q : Nat, kTu (K j) = some q → ∃ (pn ck to : Int32) (ea : Option Nat) (te : Int32), f q = some (eT pn ck to ea te)) (x : Int32) : Met l y_ClerkRows_leave (.code y_ClerkRows_leave b_ClerkRows_leave 4 (some .int) :: tb) rm_ClerkRows_leave (va_Pc [.ref a, .int x] (wd_preZ D classes (ty ca) f sz)) (va_Qi (fun r f' => ((∀ j : Nat, j < 20 → x ≠ nI j) ∧ r = -101 ∧ f' = f) ∨ ∃ j : Nat, j < 20 ∧ x = nI j ∧ ((kIn (K j) = 0 ∧ r = -103 ∧ f' = f) ∨ (¬ kIn (K j) = 0 ∧ ((kTu (K j) = none ∧ r = 0 ∧ f' = wd_up f (kAd (K j)) (eK (nI j) 0 (kOf (K j)) (kSk (K j)) none)) ∨ ∃ (q : Nat) (pn ck to : Int32) (ea : Option Nat) (te : Int32), kTu (K j) = some q ∧ f q = some (eT pn ck to ea te) ∧ r = 1 ∧ f' = wd_up (wd_up f q (eT pn ck to ea (-2))) (kAd (K j)) (eK (nI j) 0 (kOf (K j)) (kSk (K j)) none))))) (wd_B D classes f sz) (wd_A f sz)) 0 0 (wd_A f sz) := by
  refine wd_Qi (own := R_ClerkRows) (by decide) rfl (Nat.le_of_ble_eq_true rfl) ?_
  intro p e s m args below meth c Q X hK hw ret ls hl
  have hx := X.1
  have hb := X.2.1
  have hown := X.2.2.2.1
  have hts := X.2.2.2.2
  have hl : lv_has ls 4 [(0, .ref a), (1, .int x)] := hl
  refine lv_aload_n hx hb d_ClerkRows_leave_0 rfl (lv_at hl 0 rfl) ?_
  refine lv_iload_n hx hb d_ClerkRows_leave_1 rfl (lv_at hl 1 rfl) ?_
  refine wd_cvq (As := [.int x]) (rest := []) X hK hw (c_ClerkRows_findClerk a mo pa ka md nw lt ha gk hgk x) (cw_ClerkRows_62 hts rfl rfl ⟨(Nat.le_of_ble_eq_true rfl), (Nat.le_of_ble_eq_true rfl)⟩) ha rfl rfl rfl hl.1 rfl (Nat.le_of_ble_eq_true rfl) d_ClerkRows_leave_2 ⟨(Nat.le_of_ble_eq_true rfl), (Nat.le_of_ble_eq_true rfl)⟩ (fun r hz => ?_)
  rcases hz with ⟨j, hj, hxj, hz⟩ | ⟨nxj, hz⟩
  · skip
    rw [(hrk j hj).1] at hz
    subst hz
    have hkj : f (kAd (K j)) = some (eJ (nI j) (K j)) := (hrk j hj).2
    refine lv_astore_n (lv' := [(2, .ref (kAd (K j))), (0, .ref a), (1, .int x)]) hx hb d_ClerkRows_leave_5 rfl hl (by decide) rfl (fun ls hl => ?_)
    refine lv_aload_n hx hb d_ClerkRows_leave_6 rfl (lv_at hl 0 rfl) ?_
    refine lv_ifnonnull (tgt := 13) hx hb d_ClerkRows_leave_7 (by decide) ?_
    refine lv_aload_n hx hb d_ClerkRows_leave_13 rfl (lv_at hl 0 rfl) ?_
    refine fg_ClerkRows_66 X hK hw hkj d_ClerkRows_leave_14 ?_
    refine lv_if_ne (tgt := 23) hx hb d_ClerkRows_leave_17 (by decide) (fun c1 => ?_) (fun c1 => ?_)
    · skip
      rcases htu : kTu (K j) with _ | tq
      · skip
        have hkj : f (kAd (K j)) = some (eK (nI j) (kIn (K j)) (kOf (K j)) (kSk (K j)) none) := by rw [← htu]; exact hkj
        refine lv_aload_n hx hb d_ClerkRows_leave_23 rfl (lv_at hl 0 rfl) ?_
        refine lv_iconst (v := 0) hx hb d_ClerkRows_leave_24 (by decide) ?_
        refine fp_ClerkRows_66 X hK hw hkj rfl rfl d_ClerkRows_leave_25 (fun f2 H locs ef2 hw => ?_)
        have ha : f2 a = some (eR mo pa ka md nw lt) := by rw [ef2, wd_un (wd_ne ha hkj (by decide))]; exact ha
        have hgk : f2 ka = some (eA (ca 1) 20 gk) := by rw [ef2, wd_un (Ne.symm (wd_neA hkj hgk))]; exact hgk
        have hkj : f2 (kAd (K j)) = some (eK (nI j) 0 (kOf (K j)) (kSk (K j)) none) := by rw [ef2]; exact wd_us
        refine lv_aload_n hx hb d_ClerkRows_leave_28 rfl (lv_at hl 0 rfl) ?_
        refine fg_ClerkRows_70 X hK hw hkj d_ClerkRows_leave_29 ?_
        refine lv_astore_nN (lv' := [(3, .null), (2, .ref (kAd (K j))), (0, .ref a), (1, .int x)]) hx hb d_ClerkRows_leave_32 rfl hl (by decide) rfl (fun ls hl => ?_)
        refine lv_aload_nN hx hb d_ClerkRows_leave_33 rfl (lv_at hl 0 rfl) ?_
        refine lv_ifnonnullN hx hb d_ClerkRows_leave_34 ?_
        refine lv_iconst (v := 0) hx hb d_ClerkRows_leave_37 (by decide) ?_
        exact ret _ _ _ _ _ _ d_ClerkRows_leave_38 hw (Or.inr ⟨j, hj, hxj, Or.inr ⟨c1, Or.inl ⟨htu, rfl, ef2⟩⟩⟩)
      · skip
        obtain ⟨pn, ck, to, ea, te, ht⟩ := hT j hj tq htu
        have ht0 := ht
        have hkj : f (kAd (K j)) = some (eK (nI j) (kIn (K j)) (kOf (K j)) (kSk (K j)) (some tq)) := by rw [← htu]; exact hkj
        refine lv_aload_n hx hb d_ClerkRows_leave_23 rfl (lv_at hl 0 rfl) ?_
        refine lv_iconst (v := 0) hx hb d_ClerkRows_leave_24 (by decide) ?_
        refine fp_ClerkRows_66 X hK hw hkj rfl rfl d_ClerkRows_leave_25 (fun f3 H locs ef3 hw => ?_)
        have ha : f3 a = some (eR mo pa ka md nw lt) := by rw [ef3, wd_un (wd_ne ha hkj (by decide))]; exact ha
        have hgk : f3 ka = some (eA (ca 1) 20 gk) := by rw [ef3, wd_un (Ne.symm (wd_neA hkj hgk))]; exact hgk
        have ht : f3 tq = some (eT pn ck to ea te) := by rw [ef3, wd_un (wd_ne ht hkj (by decide))]; exact ht
        have hkj : f3 (kAd (K j)) = some (eK (nI j) 0 (kOf (K j)) (kSk (K j)) (some tq)) := by rw [ef3]; exact wd_us
        refine lv_aload_n hx hb d_ClerkRows_leave_28 rfl (lv_at hl 0 rfl) ?_
        refine fg_ClerkRows_70 X hK hw hkj d_ClerkRows_leave_29 ?_
        refine lv_astore_n (lv' := [(3, .ref tq), (2, .ref (kAd (K j))), (0, .ref a), (1, .int x)]) hx hb d_ClerkRows_leave_32 rfl hl (by decide) rfl (fun ls hl => ?_)
        refine lv_aload_n hx hb d_ClerkRows_leave_33 rfl (lv_at hl 0 rfl) ?_
        refine lv_ifnonnull (tgt := 39) hx hb d_ClerkRows_leave_34 (by decide) ?_
        refine lv_aload_n hx hb d_ClerkRows_leave_39 rfl (lv_at hl 0 rfl) ?_
        refine lv_bipush (v := (-2)) hx hb d_ClerkRows_leave_40 (by decide) ?_
        refine fp_ClerkRows_111 X hK hw ht rfl rfl d_ClerkRows_leave_42 (fun f4 H locs ef4 hw => ?_)
        have ha : f4 a = some (eR mo pa ka md nw lt) := by rw [ef4, wd_un (wd_ne ha ht (by decide))]; exact ha
        have hgk : f4 ka = some (eA (ca 1) 20 gk) := by rw [ef4, wd_un (Ne.symm (wd_neA ht hgk))]; exact hgk
        have hkj : f4 (kAd (K j)) = some (eK (nI j) 0 (kOf (K j)) (kSk (K j)) (some tq)) := by rw [ef4, wd_un (wd_ne hkj ht (by decide))]; exact hkj
        have ht : f4 tq = some (eT pn ck to ea (-2)) := by rw [ef4]; exact wd_us
        refine lv_aload_n hx hb d_ClerkRows_leave_45 rfl (lv_at hl 1 rfl) ?_
        refine lv_null hx hb d_ClerkRows_leave_46 ?_
        refine fp_ClerkRows_70 X hK hw hkj rfl rfl d_ClerkRows_leave_47 (fun f5 H locs ef5 hw => ?_)
        have ha : f5 a = some (eR mo pa ka md nw lt) := by rw [ef5, wd_un (wd_ne ha hkj (by decide))]; exact ha
        have hgk : f5 ka = some (eA (ca 1) 20 gk) := by rw [ef5, wd_un (Ne.symm (wd_neA hkj hgk))]; exact hgk
        have ht : f5 tq = some (eT pn ck to ea (-2)) := by rw [ef5, wd_un (wd_ne ht hkj (by decide))]; exact ht
        have hkj : f5 (kAd (K j)) = some (eK (nI j) 0 (kOf (K j)) (kSk (K j)) none) := by rw [ef5]; exact wd_us
        refine lv_iconst (v := 1) hx hb d_ClerkRows_leave_50 (by decide) ?_
        exact ret _ _ _ _ _ _ d_ClerkRows_leave_51 hw (Or.inr ⟨j, hj, hxj, Or.inr ⟨c1, Or.inr ⟨tq, pn, ck, to, ea, te, htu, ht0, rfl, by rw [ef5, ef4, ef3]; exact wd_u3⟩⟩⟩)
    · skip
      refine lv_bipush (v := (-103)) hx hb d_ClerkRows_leave_20 (by decide) ?_
      exact ret _ _ _ _ _ _ d_ClerkRows_leave_22 hw (Or.inr ⟨j, hj, hxj, Or.inl ⟨c1, rfl, rfl⟩⟩)
  · skip
    subst hz
    refine lv_astore_nN (lv' := [(2, .null), (0, .ref a), (1, .int x)]) hx hb d_ClerkRows_leave_5 rfl hl (by decide) rfl (fun ls hl => ?_)
    refine lv_aload_nN hx hb d_ClerkRows_leave_6 rfl (lv_at hl 0 rfl) ?_
    refine lv_ifnonnullN hx hb d_ClerkRows_leave_7 ?_
    refine lv_bipush (v := (-101)) hx hb d_ClerkRows_leave_10 (by decide) ?_
    exact ret _ _ _ _ _ _ d_ClerkRows_leave_12 hw (Or.inl ⟨no_K nxj, rfl, rfl⟩)

abbrev rm_ClerkRows_tick : Room := { frames := 2, cells := 0, slots := 0, locals := 46 }
set_option maxHeartbeats 4000000 in
set_option maxRecDepth 100000 in
theorem c_ClerkRows_tick {l : Launch} {D : va_G} {ca : Nat → ClassId} {f : wd_M} {sz : Nat} (a : Nat) (mo : Int32) (pa ka : Nat) (md : Int32) (nw : Int64) (lt : Int32) (ha : f a = some (eR mo pa ka md nw lt)) (gp : Nat → Option Nat) (hg : f pa = some (eA (ca 0) 300 gp)) (n : Nat) (P : Nat → PT) (hr : rp f gp n P) (t : Int64) : Met l y_ClerkRows_tick (.code y_ClerkRows_tick b_ClerkRows_tick 4 (some .int) :: tb) rm_ClerkRows_tick (va_Pc [.ref a, .long t] (wd_preZ D classes (ty ca) f sz)) (va_Qi (fun r f' => (¬ isT nw t ∧ r = -102 ∧ f' = f) ∨ (isT nw t ∧ ∃ f1 : wd_M, f1 a = some (eR mo pa ka md t (lt + nI (cL t P n))) ∧ f1 pa = some (eA (ca 0) 300 gp) ∧ rp f1 gp n (pst t P n) ∧ (∀ q : Nat, q ≠ a → (∀ j : Nat, j < n → q ≠ pAd (P j)) → f1 q = f q) ∧ r = lt + nI (cL t P n) ∧ f' = wd_up f1 a (eR mo pa ka md t 0))) (wd_B D classes f sz) (wd_A f sz)) 0 0 (wd_A f sz) := by
  refine wd_Qi (own := R_ClerkRows) (by decide) rfl (Nat.le_of_ble_eq_true rfl) ?_
  intro p e s m args below meth c Q X hK hw ret ls hl
  have hx := X.1
  have hb := X.2.1
  have hown := X.2.2.2.1
  have hts := X.2.2.2.2
  have hl : lv_has ls 4 [(0, .ref a), (1, .long t)] := hl
  refine lv_aload_n hx hb d_ClerkRows_tick_0 rfl (lv_at hl 0 rfl) ?_
  refine lv_lload_n hx hb d_ClerkRows_tick_1 rfl (lv_at hl 1 rfl) ?_
  refine wd_cvi (As := [.long t]) (rest := []) X hK hw (c_ClerkRows_isTime a mo pa ka md nw lt ha t) (cw_ClerkRows_47 hts rfl rfl ⟨(Nat.le_of_ble_eq_true rfl), (Nat.le_of_ble_eq_true rfl)⟩) ha rfl rfl rfl hl.1 rfl (Nat.le_of_ble_eq_true rfl) d_ClerkRows_tick_2 ⟨(Nat.le_of_ble_eq_true rfl), (Nat.le_of_ble_eq_true rfl)⟩ (fun r hz => ?_)
  rcases hz with ⟨z1, rfl⟩ | ⟨z1, rfl⟩
  · skip
    refine lv_if_ne (tgt := 11) hx hb d_ClerkRows_tick_5 (by decide) (fun c2 => ?_) (fun c2 => ?_)
    · skip
      refine lv_aload_n hx hb d_ClerkRows_tick_11 rfl (lv_at hl 0 rfl) ?_
      refine lv_lload_n hx hb d_ClerkRows_tick_12 rfl (lv_at hl 1 rfl) ?_
      refine wd_mvv (As := [.long t]) (rest := []) X hK hw (c_ClerkRows_passTo a mo pa ka md nw lt ha gp hg n P hr t) (cw_ClerkRows_74 hts rfl rfl ⟨(Nat.le_of_ble_eq_true rfl), (Nat.le_of_ble_eq_true rfl)⟩) ha rfl rfl rfl hl.1 rfl (Nat.le_of_ble_eq_true rfl) d_ClerkRows_tick_13 ⟨(Nat.le_of_ble_eq_true rfl), (Nat.le_of_ble_eq_true rfl)⟩ (fun f3 H locs hz hw => ?_)
      obtain ⟨ha1, hg1, hr1, hk1⟩ := hz
      have ha10 := ha1
      have hg10 := hg1
      refine lv_aload_n hx hb d_ClerkRows_tick_16 rfl (lv_at hl 0 rfl) ?_
      refine fg_ClerkRows_29 X hK hw ha1 d_ClerkRows_tick_17 ?_
      refine lv_istore_n (lv' := [(3, .int (lt + nI (cL t P n))), (0, .ref a), (1, .long t)]) hx hb d_ClerkRows_tick_20 rfl hl (by decide) rfl (fun ls hl => ?_)
      refine lv_aload_n hx hb d_ClerkRows_tick_21 rfl (lv_at hl 1 rfl) ?_
      refine lv_iconst (v := 0) hx hb d_ClerkRows_tick_22 (by decide) ?_
      refine fp_ClerkRows_29 X hK hw ha1 rfl rfl d_ClerkRows_tick_23 (fun f4 H locs ef4 hw => ?_)
      have hg1 : f4 pa = some (eA (ca 0) 300 gp) := by rw [ef4, wd_un (Ne.symm (wd_neA ha1 hg1))]; exact hg1
      have ha1 : f4 a = some (eR mo pa ka md t 0) := by rw [ef4]; exact wd_us
      refine lv_iload_n hx hb d_ClerkRows_tick_26 rfl (lv_at hl 0 rfl) ?_
      exact ret _ _ _ _ _ _ d_ClerkRows_tick_27 hw (Or.inr ⟨z1, _, ha10, hg10, hr1, hk1, rfl, ef4⟩)
    · exact absurd c2 (by decide)
  · skip
    refine lv_if_ne (tgt := 11) hx hb d_ClerkRows_tick_5 (by decide) (fun c5 => ?_) (fun c5 => ?_)
    · exact absurd c5 (by decide)
    · skip
      refine lv_bipush (v := (-102)) hx hb d_ClerkRows_tick_8 (by decide) ?_
      exact ret _ _ _ _ _ _ d_ClerkRows_tick_10 hw (Or.inl ⟨z1, rfl, rfl⟩)
end
section
abbrev rm_ClerkRows_picture : Room := { frames := 2, cells := 1, slots := 8, locals := 45 }
set_option maxHeartbeats 4000000 in
set_option maxRecDepth 100000 in
theorem c_ClerkRows_picture {l : Launch} {D : va_G} {ca : Nat → ClassId} {f : wd_M} {sz : Nat} (a : Nat) (mo : Int32) (pa ka : Nat) (n : Nat) (nw : Int64) (lt : Int32) (ha : f a = some (eR mo pa ka (nI n) nw lt)) (gp : Nat → Option Nat) (hg : f pa = some (eA (ca 0) 300 gp)) (P : Nat → PT) (hr : rp f gp n P) (t : Int64) (sk : Int32) : Met l y_ClerkRows_picture (.code y_ClerkRows_picture b_ClerkRows_picture 4 (some .int) :: tb) rm_ClerkRows_picture (va_Pc [.ref a, .long t, .int sk] (wd_preZ D classes (ty ca) f sz)) (va_Qi (fun r f' => (¬ (isT nw t ∧ wi sk 3) ∧ r = -102 ∧ f' = f) ∨ ((isT nw t ∧ wi sk 3) ∧ ((¬ nI n < 300 ∧ r = -104 ∧ f' = f) ∨ (nI n < 300 ∧ ((¬ nI (cW P n) < mo ∧ r = 0 ∧ f' = f) ∨ (nI (cW P n) < mo ∧ ∃ q : Nat, f q = none ∧ r = nI (n + 1) ∧ f' = wd_up (wd_up (wd_up f q (eP (nI (n + 1)) t sk 2 0 0 0 none)) pa (eA (ca 0) 300 (va_up gp n (some q)))) a (eR mo pa ka (nI (n + 1)) nw lt))))))) (wd_B D classes f sz) (wd_A f sz)) 1 8 (wd_A f sz) := by
  refine wd_Qi (own := R_ClerkRows) (by decide) rfl (Nat.le_of_ble_eq_true rfl) ?_
  intro p e s m args below meth c Q X hK hw ret ls hl
  have hx := X.1
  have hb := X.2.1
  have hown := X.2.2.2.1
  have hts := X.2.2.2.2
  have hl : lv_has ls 4 [(0, .ref a), (1, .long t), (3, .int sk)] := hl
  refine lv_aload_n hx hb d_ClerkRows_picture_0 rfl (lv_at hl 0 rfl) ?_
  refine lv_lload_n hx hb d_ClerkRows_picture_1 rfl (lv_at hl 1 rfl) ?_
  refine wd_cvi (As := [.long t]) (rest := []) X hK hw (c_ClerkRows_isTime a mo pa ka (nI n) nw lt ha t) (cw_ClerkRows_47 hts rfl rfl ⟨(Nat.le_of_ble_eq_true rfl), (Nat.le_of_ble_eq_true rfl)⟩) ha rfl rfl rfl hl.1 rfl (Nat.le_of_ble_eq_true rfl) d_ClerkRows_picture_2 ⟨(Nat.le_of_ble_eq_true rfl), (Nat.le_of_ble_eq_true rfl)⟩ (fun r hz => ?_)
  rcases hz with ⟨z1, rfl⟩ | ⟨z1, rfl⟩
  · skip
    refine lv_if_eq (tgt := 16) hx hb d_ClerkRows_picture_5 (by decide) (fun c2 => ?_) (fun c2 => ?_)
    · exact absurd c2 (by decide)
    · skip
      refine lv_iload_n hx hb d_ClerkRows_picture_8 rfl (lv_at hl 2 rfl) ?_
      refine lv_iconst (v := 3) hx hb d_ClerkRows_picture_9 (by decide) ?_
      refine wd_csi (As := [.int sk, .int 3]) (rest := []) X hK hw (c_ClerkRows_isWithin sk 3) (cw_ClerkRows_51 hts rfl rfl ⟨(Nat.le_of_ble_eq_true rfl), (Nat.le_of_ble_eq_true rfl)⟩) rfl hl.1 rfl (Nat.le_of_ble_eq_true rfl) d_ClerkRows_picture_10 ⟨(Nat.le_of_ble_eq_true rfl), (Nat.le_of_ble_eq_true rfl)⟩ (fun r hz => ?_)
      rcases hz with ⟨z3, rfl⟩ | ⟨z3, rfl⟩
      · skip
        refine lv_if_ne (tgt := 19) hx hb d_ClerkRows_picture_13 (by decide) (fun c4 => ?_) (fun c4 => ?_)
        · skip
          refine lv_aload_n hx hb d_ClerkRows_picture_19 rfl (lv_at hl 0 rfl) ?_
          refine fg_ClerkRows_21 X hK hw ha d_ClerkRows_picture_20 ?_
          refine lv_sipush (v := 300) hx hb d_ClerkRows_picture_23 (by decide) ?_
          refine lv_icmp_lt (tgt := 32) hx hb d_ClerkRows_picture_26 (by decide) (fun c5 => ?_) (fun c5 => ?_)
          · skip
            refine lv_aload_n hx hb d_ClerkRows_picture_32 rfl (lv_at hl 0 rfl) ?_
            refine wd_cvi (As := []) (rest := []) X hK hw (c_ClerkRows_waiting a mo pa ka (nI n) nw lt ha gp hg n P hr) (cw_ClerkRows_55 hts rfl rfl ⟨(Nat.le_of_ble_eq_true rfl), (Nat.le_of_ble_eq_true rfl)⟩) ha rfl rfl rfl hl.1 rfl (Nat.le_of_ble_eq_true rfl) d_ClerkRows_picture_33 ⟨(Nat.le_of_ble_eq_true rfl), (Nat.le_of_ble_eq_true rfl)⟩ (fun r hz => ?_)
            subst hz
            refine lv_aload_n hx hb d_ClerkRows_picture_36 rfl (lv_at hl 0 rfl) ?_
            refine fg_ClerkRows_41 X hK hw ha d_ClerkRows_picture_37 ?_
            refine lv_icmp_lt (tgt := 45) hx hb d_ClerkRows_picture_40 (by decide) (fun c6 => ?_) (fun c6 => ?_)
            · skip
              refine lv_aload_n hx hb d_ClerkRows_picture_45 rfl (lv_at hl 0 rfl) ?_
              refine fg_ClerkRows_11 X hK hw ha d_ClerkRows_picture_46 ?_
              refine lv_aload_n hx hb d_ClerkRows_picture_49 rfl (lv_at hl 0 rfl) ?_
              refine fg_ClerkRows_21 X hK hw ha d_ClerkRows_picture_50 ?_
              refine nw_ClerkRows_9 X hK hw (Nat.le_of_ble_eq_true rfl) (Nat.le_of_ble_eq_true rfl) d_ClerkRows_picture_53 (fun q7 f8 H eq7 hq7 ef8 hw => ?_)
              have ha : f8 a = some (eR mo pa ka (nI n) nw lt) := by rw [ef8, wd_un (wd_neF ha hq7)]; exact ha
              have hg : f8 pa = some (eA (ca 0) 300 gp) := by rw [ef8, wd_un (wd_neF hg hq7)]; exact hg
              have h_q7 : f8 q7 = some (eP 0 0 0 0 0 0 0 none) := by rw [ef8]; exact wd_us
              refine lv_dup hx hb d_ClerkRows_picture_56 rfl ?_
              refine lv_aload_n hx hb d_ClerkRows_picture_57 rfl (lv_at hl 0 rfl) ?_
              refine fg_ClerkRows_21 X hK hw ha d_ClerkRows_picture_58 ?_
              refine lv_iconst (v := 1) hx hb d_ClerkRows_picture_61 (by decide) ?_
              refine lv_iadd hx hb d_ClerkRows_picture_62 ?_
              refine lv_lload_n hx hb d_ClerkRows_picture_63 rfl (lv_at hl 1 rfl) ?_
              refine lv_iload_n hx hb d_ClerkRows_picture_64 rfl (lv_at hl 2 rfl) ?_
              refine wd_mI (As := [.int ((nI n) + 1), .long t, .int sk]) (rest := [.ref q7, .int (nI n), .ref pa]) X hK hw (c_Picture_init q7 h_q7 ((nI n) + 1) t sk) (cw_ClerkRows_59 hts rfl rfl ⟨(Nat.le_of_ble_eq_true rfl), (Nat.le_of_ble_eq_true rfl)⟩) rfl hl.1 rfl (Nat.le_of_ble_eq_true rfl) d_ClerkRows_picture_65 ⟨(Nat.le_of_ble_eq_true rfl), (Nat.le_of_ble_eq_true rfl)⟩ (fun f9 H locs ef9 hw => ?_)
              have ha : f9 a = some (eR mo pa ka (nI n) nw lt) := by rw [ef9, wd_un (wd_ne ha h_q7 (by decide))]; exact ha
              have hg : f9 pa = some (eA (ca 0) 300 gp) := by rw [ef9, wd_un (Ne.symm (wd_neA h_q7 hg))]; exact hg
              have h_q7 : f9 q7 = some (eP ((nI n) + 1) t sk 2 0 0 0 none) := by rw [ef9]; exact wd_us
              have hn3 : n < 300 := (nI_ltI (Nat.lt_of_le_of_lt hr.1 (by decide)) (by decide)).mp c5
              refine wd_astS X hK hw hg 0 (r := (R_Picture, F_Picture, 8)) rfl h_q7 rfl hn3 (by decide) d_ClerkRows_picture_68 (fun f10 H locs ef10 hw => ?_)
              have ha : f10 a = some (eR mo pa ka (nI n) nw lt) := by rw [ef10, wd_un (wd_neA ha hg)]; exact ha
              have h_q7 : f10 q7 = some (eP ((nI n) + 1) t sk 2 0 0 0 none) := by rw [ef10, wd_un (wd_neA h_q7 hg)]; exact h_q7
              have hg : f10 pa = some (eA (ca 0) 300 (va_up gp n (some q7))) := by rw [ef10]; exact wd_us
              refine lv_aload_n hx hb d_ClerkRows_picture_69 rfl (lv_at hl 0 rfl) ?_
              refine lv_dup hx hb d_ClerkRows_picture_70 rfl ?_
              refine fg_ClerkRows_21 X hK hw ha d_ClerkRows_picture_71 ?_
              refine lv_iconst (v := 1) hx hb d_ClerkRows_picture_74 (by decide) ?_
              refine lv_iadd hx hb d_ClerkRows_picture_75 ?_
              refine fp_ClerkRows_21 X hK hw ha rfl rfl d_ClerkRows_picture_76 (fun f11 H locs ef11 hw => ?_)
              have hg : f11 pa = some (eA (ca 0) 300 (va_up gp n (some q7))) := by rw [ef11, wd_un (Ne.symm (wd_neA ha hg))]; exact hg
              have h_q7 : f11 q7 = some (eP ((nI n) + 1) t sk 2 0 0 0 none) := by rw [ef11, wd_un (wd_ne h_q7 ha (by decide))]; exact h_q7
              have ha : f11 a = some (eR mo pa ka ((nI n) + 1) nw lt) := by rw [ef11]; exact wd_us
              refine lv_aload_n hx hb d_ClerkRows_picture_79 rfl (lv_at hl 0 rfl) ?_
              refine fg_ClerkRows_21 X hK hw ha d_ClerkRows_picture_80 ?_
              exact ret _ _ _ _ _ _ d_ClerkRows_picture_83 hw (Or.inr ⟨⟨z1, z3⟩, Or.inr ⟨c5, Or.inr ⟨c6, q7, hq7, nI_succ n ▸ rfl, by rw [ef11, ef10, ef9, ef8, nI_succ n]; (try simp only [wd_uu]); try rfl⟩⟩⟩)
            · skip
              refine lv_iconst (v := 0) hx hb d_ClerkRows_picture_43 (by decide) ?_
              refine W.widen (k := 1) (n := 8) (Nat.le_of_ble_eq_true rfl) (Nat.le_of_ble_eq_true rfl) ?_
              exact ret _ _ _ _ _ _ d_ClerkRows_picture_44 hw (Or.inr ⟨⟨z1, z3⟩, Or.inr ⟨c5, Or.inl ⟨c6, rfl, rfl⟩⟩⟩)
          · skip
            refine lv_bipush (v := (-104)) hx hb d_ClerkRows_picture_29 (by decide) ?_
            refine W.widen (k := 1) (n := 8) (Nat.le_of_ble_eq_true rfl) (Nat.le_of_ble_eq_true rfl) ?_
            exact ret _ _ _ _ _ _ d_ClerkRows_picture_31 hw (Or.inr ⟨⟨z1, z3⟩, Or.inl ⟨c5, rfl, rfl⟩⟩)
        · exact absurd c4 (by decide)
      · skip
        refine lv_if_ne (tgt := 19) hx hb d_ClerkRows_picture_13 (by decide) (fun c12 => ?_) (fun c12 => ?_)
        · exact absurd c12 (by decide)
        · skip
          refine lv_bipush (v := (-102)) hx hb d_ClerkRows_picture_16 (by decide) ?_
          refine W.widen (k := 1) (n := 8) (Nat.le_of_ble_eq_true rfl) (Nat.le_of_ble_eq_true rfl) ?_
          exact ret _ _ _ _ _ _ d_ClerkRows_picture_18 hw (Or.inl ⟨(fun q => z3 q.2), rfl, rfl⟩)
  · skip
    refine lv_if_eq (tgt := 16) hx hb d_ClerkRows_picture_5 (by decide) (fun c13 => ?_) (fun c13 => ?_)
    · skip
      refine lv_bipush (v := (-102)) hx hb d_ClerkRows_picture_16 (by decide) ?_
      refine W.widen (k := 1) (n := 8) (Nat.le_of_ble_eq_true rfl) (Nat.le_of_ble_eq_true rfl) ?_
      exact ret _ _ _ _ _ _ d_ClerkRows_picture_18 hw (Or.inl ⟨(fun q => z1 q.1), rfl, rfl⟩)
    · exact absurd c13 (by decide)

abbrev rm_ClerkRows_give : Room := { frames := 3, cells := 1, slots := 5, locals := 70 }
set_option maxHeartbeats 4000000 in
set_option maxRecDepth 100000 in
theorem c_ClerkRows_give {l : Launch} {D : va_G} {ca : Nat → ClassId} {f : wd_M} {sz : Nat} (a : Nat) (mo : Int32) (pa ka : Nat) (md : Int32) (nw : Int64) (lt : Int32) (ha : f a = some (eR mo pa ka md nw lt)) (gp : Nat → Option Nat) (hg : f pa = some (eA (ca 0) 300 gp)) (n : Nat) (P : Nat → PT) (hr : rp f gp n P) (gk : Nat → Option Nat) (K : Nat → KT) (hgk : f ka = some (eA (ca 1) 20 gk)) (hrk : rk f gk K) (x : Int32) (t : Int64) : Met l y_ClerkRows_give (.code y_ClerkRows_give b_ClerkRows_give 6 (some .int) :: tb) rm_ClerkRows_give (va_Pc [.ref a, .int x, .long t] (wd_preZ D classes (ty ca) f sz)) (va_Qi (fun r f' => ((∀ j : Nat, j < 20 → x ≠ nI j) ∧ r = -101 ∧ f' = f) ∨ ∃ j : Nat, j < 20 ∧ x = nI j ∧ ((¬ isT nw t ∧ r = -102 ∧ f' = f) ∨ (isT nw t ∧ (((kIn (K j) = 0 ∨ kTu (K j) ≠ none) ∧ r = -103 ∧ f' = f) ∨ ((¬ kIn (K j) = 0 ∧ kTu (K j) = none) ∧ ∃ f1 : wd_M, f1 a = some (eR mo pa ka md t (lt + nI (cL t P n))) ∧ f1 pa = some (eA (ca 0) 300 gp) ∧ rp f1 gp n (pst t P n) ∧ (∀ q : Nat, q ≠ a → (∀ j : Nat, j < n → q ≠ pAd (P j)) → f1 q = f q) ∧ ((gvn (pst t P n) (nI j) (kOf (K j)) (kSk (K j)) n = none ∧ r = 0 ∧ f' = f1) ∨ ∃ (b q : Nat) (la : Option Nat), gvn (pst t P n) (nI j) (kOf (K j)) (kSk (K j)) n = some b ∧ b < n ∧ f1 q = none ∧ f1 (pAd (pst t P n b)) = some (eQ (nI (b + 1)) (pst t P n b) la) ∧ r = nI (b + 1) ∧ f' = wd_up (wd_up (wd_up f1 q (eT (nI (b + 1)) (nI j) (kOf (K j)) la (-1))) (pAd (pst t P n b)) (eP (nI (b + 1)) (pDu (pst t P n b)) (pSk (pst t P n b)) (pWa (pst t P n b)) (pAn (pst t P n b)) (pEn (pst t P n b)) (pSw (pst t P n b)) (some q))) (kAd (K j)) (eK (nI j) (kIn (K j)) (kOf (K j)) (kSk (K j)) (some q)))))))) (wd_B D classes f sz) (wd_A f sz)) 1 5 (wd_A f sz) := by
  refine wd_Qi (own := R_ClerkRows) (by decide) rfl (Nat.le_of_ble_eq_true rfl) ?_
  intro p e s m args below meth c Q X hK hw ret ls hl
  have hx := X.1
  have hb := X.2.1
  have hown := X.2.2.2.1
  have hts := X.2.2.2.2
  have hl : lv_has ls 6 [(0, .ref a), (1, .int x), (2, .long t)] := hl
  refine lv_aload_n hx hb d_ClerkRows_give_0 rfl (lv_at hl 0 rfl) ?_
  refine lv_iload_n hx hb d_ClerkRows_give_1 rfl (lv_at hl 1 rfl) ?_
  refine wd_cvq (As := [.int x]) (rest := []) X hK hw (c_ClerkRows_findClerk a mo pa ka md nw lt ha gk hgk x) (cw_ClerkRows_62 hts rfl rfl ⟨(Nat.le_of_ble_eq_true rfl), (Nat.le_of_ble_eq_true rfl)⟩) ha rfl rfl rfl hl.1 rfl (Nat.le_of_ble_eq_true rfl) d_ClerkRows_give_2 ⟨(Nat.le_of_ble_eq_true rfl), (Nat.le_of_ble_eq_true rfl)⟩ (fun r hz => ?_)
  rcases hz with ⟨j, hj, hxj, hz⟩ | ⟨nxj, hz⟩
  · skip
    rw [(hrk j hj).1] at hz
    subst hz
    have hkj : f (kAd (K j)) = some (eJ (nI j) (K j)) := (hrk j hj).2
    refine lv_astore (lv' := [(4, .ref (kAd (K j))), (0, .ref a), (1, .int x), (2, .long t)]) hx hb d_ClerkRows_give_5 hl (by decide) rfl (fun ls hl => ?_)
    refine lv_aload hx hb d_ClerkRows_give_7 (lv_at hl 0 rfl) ?_
    refine lv_ifnonnull (tgt := 15) hx hb d_ClerkRows_give_9 (by decide) ?_
    refine lv_aload_n hx hb d_ClerkRows_give_15 rfl (lv_at hl 1 rfl) ?_
    refine lv_lload_n hx hb d_ClerkRows_give_16 rfl (lv_at hl 3 rfl) ?_
    refine wd_cvi (As := [.long t]) (rest := []) X hK hw (c_ClerkRows_isTime a mo pa ka md nw lt ha t) (cw_ClerkRows_47 hts rfl rfl ⟨(Nat.le_of_ble_eq_true rfl), (Nat.le_of_ble_eq_true rfl)⟩) ha rfl rfl rfl hl.1 rfl (Nat.le_of_ble_eq_true rfl) d_ClerkRows_give_17 ⟨(Nat.le_of_ble_eq_true rfl), (Nat.le_of_ble_eq_true rfl)⟩ (fun r hz => ?_)
    rcases hz with ⟨z1, rfl⟩ | ⟨z1, rfl⟩
    · skip
      refine lv_if_ne (tgt := 26) hx hb d_ClerkRows_give_20 (by decide) (fun c2 => ?_) (fun c2 => ?_)
      · skip
        rcases htu : kTu (K j) with _ | tq
        · skip
          have hkj : f (kAd (K j)) = some (eK (nI j) (kIn (K j)) (kOf (K j)) (kSk (K j)) none) := by rw [← htu]; exact hkj
          refine lv_aload hx hb d_ClerkRows_give_26 (lv_at hl 0 rfl) ?_
          refine fg_ClerkRows_66 X hK hw hkj d_ClerkRows_give_28 ?_
          refine lv_if_eq (tgt := 42) hx hb d_ClerkRows_give_31 (by decide) (fun c3 => ?_) (fun c3 => ?_)
          · skip
            refine lv_bipush (v := (-103)) hx hb d_ClerkRows_give_42 (by decide) ?_
            refine W.widen (k := 1) (n := 5) (Nat.le_of_ble_eq_true rfl) (Nat.le_of_ble_eq_true rfl) ?_
            exact ret _ _ _ _ _ _ d_ClerkRows_give_44 hw (Or.inr ⟨j, hj, hxj, Or.inr ⟨z1, Or.inl ⟨Or.inl c3, rfl, rfl⟩⟩⟩)
          · skip
            refine lv_aload hx hb d_ClerkRows_give_34 (lv_at hl 0 rfl) ?_
            refine fg_ClerkRows_70 X hK hw hkj d_ClerkRows_give_36 ?_
            refine lv_ifnullN (tgt := 45) hx hb d_ClerkRows_give_39 (by decide) ?_
            refine lv_aload_n hx hb d_ClerkRows_give_45 rfl (lv_at hl 1 rfl) ?_
            refine lv_lload_n hx hb d_ClerkRows_give_46 rfl (lv_at hl 3 rfl) ?_
            refine wd_mvv (As := [.long t]) (rest := []) X hK hw (c_ClerkRows_passTo a mo pa ka md nw lt ha gp hg n P hr t) (cw_ClerkRows_74 hts rfl rfl ⟨(Nat.le_of_ble_eq_true rfl), (Nat.le_of_ble_eq_true rfl)⟩) ha rfl rfl rfl hl.1 rfl (Nat.le_of_ble_eq_true rfl) d_ClerkRows_give_47 ⟨(Nat.le_of_ble_eq_true rfl), (Nat.le_of_ble_eq_true rfl)⟩ (fun f4 H locs hz hw => ?_)
            obtain ⟨ha1, hg1, hr1, hk1⟩ := hz
            have hgk1 : f4 ka = some (eA (ca 1) 20 gk) := ar_keep hgk ha hr hk1
            have hrk1 : rk f4 gk K := rk_keep hrk ha hr hk1
            have hkj1 : f4 (kAd (K j)) = some (eK (nI j) (kIn (K j)) (kOf (K j)) (kSk (K j)) none) := by rw [hk1 _ (wd_ne hkj ha (by decide)) (fun i hi => by obtain ⟨-, la, h2, -⟩ := hr.2.1 i hi; exact wd_ne hkj h2 (by decide))]; exact hkj
            refine lv_aload_n hx hb d_ClerkRows_give_50 rfl (lv_at hl 1 rfl) ?_
            refine lv_aload hx hb d_ClerkRows_give_51 (lv_at hl 0 rfl) ?_
            refine wd_cvq (As := [.ref (kAd (K j))]) (rest := []) X hK hw (c_ClerkRows_findGiven a mo pa ka md t (lt + nI (cL t P n)) ha1 gp hg1 n (pst t P n) hr1 (kAd (K j)) (nI j) (kIn (K j)) (kOf (K j)) (kSk (K j)) none hkj1) (cw_ClerkRows_78 hts rfl rfl ⟨(Nat.le_of_ble_eq_true rfl), (Nat.le_of_ble_eq_true rfl)⟩) ha1 rfl rfl rfl hl.1 rfl (Nat.le_of_ble_eq_true rfl) d_ClerkRows_give_53 ⟨(Nat.le_of_ble_eq_true rfl), (Nat.le_of_ble_eq_true rfl)⟩ (fun r hz => ?_)
            rcases hgv : gvn (pst t P n) (nI j) (kOf (K j)) (kSk (K j)) n with _ | b
            · skip
              rw [hgv] at hz
              have hz : r = none := hz
              subst hz
              refine lv_astoreN (lv' := [(5, .null), (4, .ref (kAd (K j))), (0, .ref a), (1, .int x), (2, .long t)]) hx hb d_ClerkRows_give_56 hl (by decide) rfl (fun ls hl => ?_)
              refine lv_aloadN hx hb d_ClerkRows_give_58 (lv_at hl 0 rfl) ?_
              refine lv_ifnonnullN hx hb d_ClerkRows_give_60 ?_
              refine lv_iconst (v := 0) hx hb d_ClerkRows_give_63 (by decide) ?_
              refine W.widen (k := 1) (n := 5) (Nat.le_of_ble_eq_true rfl) (Nat.le_of_ble_eq_true rfl) ?_
              exact ret _ _ _ _ _ _ d_ClerkRows_give_64 hw (Or.inr ⟨j, hj, hxj, Or.inr ⟨z1, Or.inr ⟨⟨c3, htu⟩, _, ha1, hg1, hr1, hk1, Or.inl ⟨hgv, rfl, rfl⟩⟩⟩⟩)
            · skip
              rw [hgv] at hz
              have hz : r = some (pAd (pst t P n b)) := hz
              subst hz
              have hbn := gvn_lt _ _ hgv
              obtain ⟨-, la, hpb, hcb⟩ := hr1.2.1 b hbn
              have hpb0 := hpb
              refine lv_astore (lv' := [(5, .ref (pAd (pst t P n b))), (4, .ref (kAd (K j))), (0, .ref a), (1, .int x), (2, .long t)]) hx hb d_ClerkRows_give_56 hl (by decide) rfl (fun ls hl => ?_)
              refine lv_aload hx hb d_ClerkRows_give_58 (lv_at hl 0 rfl) ?_
              refine lv_ifnonnull (tgt := 65) hx hb d_ClerkRows_give_60 (by decide) ?_
              refine lv_aload hx hb d_ClerkRows_give_65 (lv_at hl 1 rfl) ?_
              refine lv_aload hx hb d_ClerkRows_give_67 (lv_at hl 0 rfl) ?_
              refine lv_aload hx hb d_ClerkRows_give_69 (lv_at hl 1 rfl) ?_
              refine wd_mvq (As := [.ref (kAd (K j))]) (rest := [.ref (kAd (K j))]) X hK hw (c_Picture_addTurn (pAd (pst t P n b)) (nI (b + 1)) (pDu (pst t P n b)) (pSk (pst t P n b)) (pWa (pst t P n b)) (pAn (pst t P n b)) (pEn (pst t P n b)) (pSw (pst t P n b)) la hpb (kAd (K j)) (nI j) (kIn (K j)) (kOf (K j)) (kSk (K j)) none hkj1) (cw_ClerkRows_82 hts rfl rfl ⟨(Nat.le_of_ble_eq_true rfl), (Nat.le_of_ble_eq_true rfl)⟩) hpb rfl rfl rfl hl.1 rfl (Nat.le_of_ble_eq_true rfl) d_ClerkRows_give_71 ⟨(Nat.le_of_ble_eq_true rfl), (Nat.le_of_ble_eq_true rfl)⟩ (fun r f5 H locs hz hw => ?_)
              obtain ⟨q6, hz, hq6, ef5⟩ := hz
              subst hz
              have hkj1 : f5 (kAd (K j)) = some (eK (nI j) (kIn (K j)) (kOf (K j)) (kSk (K j)) none) := by rw [ef5, wd_un (wd_ne hkj1 hpb (by decide)), wd_un (wd_neF hkj1 hq6)]; exact hkj1
              have hpb : f5 (pAd (pst t P n b)) = some (eP (nI (b + 1)) (pDu (pst t P n b)) (pSk (pst t P n b)) (pWa (pst t P n b)) (pAn (pst t P n b)) (pEn (pst t P n b)) (pSw (pst t P n b)) (some q6)) := by rw [ef5]; exact wd_us
              refine fp_ClerkRows_70 X hK hw hkj1 rfl rfl d_ClerkRows_give_74 (fun f7 H locs ef7 hw => ?_)
              have hpb : f7 (pAd (pst t P n b)) = some (eP (nI (b + 1)) (pDu (pst t P n b)) (pSk (pst t P n b)) (pWa (pst t P n b)) (pAn (pst t P n b)) (pEn (pst t P n b)) (pSw (pst t P n b)) (some q6)) := by rw [ef7, wd_un (wd_ne hpb hkj1 (by decide))]; exact hpb
              have hkj1 : f7 (kAd (K j)) = some (eK (nI j) (kIn (K j)) (kOf (K j)) (kSk (K j)) (some q6)) := by rw [ef7]; exact wd_us
              refine lv_aload hx hb d_ClerkRows_give_77 (lv_at hl 0 rfl) ?_
              refine fg_ClerkRows_86 X hK hw hpb d_ClerkRows_give_79 ?_
              exact ret _ _ _ _ _ _ d_ClerkRows_give_82 hw (Or.inr ⟨j, hj, hxj, Or.inr ⟨z1, Or.inr ⟨⟨c3, htu⟩, _, ha1, hg1, hr1, hk1, Or.inr ⟨b, q6, la, hgv, hbn, hq6, hpb0, rfl, by rw [ef7, ef5]⟩⟩⟩⟩)
        · skip
          have hkj : f (kAd (K j)) = some (eK (nI j) (kIn (K j)) (kOf (K j)) (kSk (K j)) (some tq)) := by rw [← htu]; exact hkj
          refine lv_aload hx hb d_ClerkRows_give_26 (lv_at hl 0 rfl) ?_
          refine fg_ClerkRows_66 X hK hw hkj d_ClerkRows_give_28 ?_
          refine lv_if_eq (tgt := 42) hx hb d_ClerkRows_give_31 (by decide) (fun c8 => ?_) (fun c8 => ?_)
          · skip
            refine lv_bipush (v := (-103)) hx hb d_ClerkRows_give_42 (by decide) ?_
            refine W.widen (k := 1) (n := 5) (Nat.le_of_ble_eq_true rfl) (Nat.le_of_ble_eq_true rfl) ?_
            exact ret _ _ _ _ _ _ d_ClerkRows_give_44 hw (Or.inr ⟨j, hj, hxj, Or.inr ⟨z1, Or.inl ⟨Or.inl c8, rfl, rfl⟩⟩⟩)
          · skip
            refine lv_aload hx hb d_ClerkRows_give_34 (lv_at hl 0 rfl) ?_
            refine fg_ClerkRows_70 X hK hw hkj d_ClerkRows_give_36 ?_
            refine lv_ifnull hx hb d_ClerkRows_give_39 ?_
            refine lv_bipush (v := (-103)) hx hb d_ClerkRows_give_42 (by decide) ?_
            refine W.widen (k := 1) (n := 5) (Nat.le_of_ble_eq_true rfl) (Nat.le_of_ble_eq_true rfl) ?_
            exact ret _ _ _ _ _ _ d_ClerkRows_give_44 hw (Or.inr ⟨j, hj, hxj, Or.inr ⟨z1, Or.inl ⟨Or.inr (by rw [htu]; exact fun z => by cases z), rfl, rfl⟩⟩⟩)
      · exact absurd c2 (by decide)
    · skip
      refine lv_if_ne (tgt := 26) hx hb d_ClerkRows_give_20 (by decide) (fun c9 => ?_) (fun c9 => ?_)
      · exact absurd c9 (by decide)
      · skip
        refine lv_bipush (v := (-102)) hx hb d_ClerkRows_give_23 (by decide) ?_
        refine W.widen (k := 1) (n := 5) (Nat.le_of_ble_eq_true rfl) (Nat.le_of_ble_eq_true rfl) ?_
        exact ret _ _ _ _ _ _ d_ClerkRows_give_25 hw (Or.inr ⟨j, hj, hxj, Or.inl ⟨z1, rfl, rfl⟩⟩)
  · skip
    subst hz
    refine lv_astoreN (lv' := [(4, .null), (0, .ref a), (1, .int x), (2, .long t)]) hx hb d_ClerkRows_give_5 hl (by decide) rfl (fun ls hl => ?_)
    refine lv_aloadN hx hb d_ClerkRows_give_7 (lv_at hl 0 rfl) ?_
    refine lv_ifnonnullN hx hb d_ClerkRows_give_9 ?_
    refine lv_bipush (v := (-101)) hx hb d_ClerkRows_give_12 (by decide) ?_
    refine W.widen (k := 1) (n := 5) (Nat.le_of_ble_eq_true rfl) (Nat.le_of_ble_eq_true rfl) ?_
    exact ret _ _ _ _ _ _ d_ClerkRows_give_14 hw (Or.inl ⟨no_K nxj, rfl, rfl⟩)

abbrev rm_ClerkRows_answer : Room := { frames := 2, cells := 0, slots := 0, locals := 46 }
set_option maxHeartbeats 4000000 in
set_option maxRecDepth 100000 in
theorem c_ClerkRows_answer {l : Launch} {D : va_G} {ca : Nat → ClassId} {f : wd_M} {sz : Nat} (a : Nat) (mo : Int32) (pa ka : Nat) (md : Int32) (nw : Int64) (lt : Int32) (ha : f a = some (eR mo pa ka md nw lt)) (gp : Nat → Option Nat) (hg : f pa = some (eA (ca 0) 300 gp)) (n : Nat) (P : Nat → PT) (hr : rp f gp n P) (gk : Nat → Option Nat) (K : Nat → KT) (hgk : f ka = some (eA (ca 1) 20 gk)) (hrk : rk f gk K) (hT : ∀ j : Nat, j < 20 → ∀ q : Nat, kTu (K j) = some q → ∃ (pn ck to : Int32) (ea : Option Nat) (te : Int32), f q = some (eT pn ck to ea te)) (x y en : Int32) (t : Int64) : Met l y_ClerkRows_answer (.code y_ClerkRows_answer b_ClerkRows_answer 9 (some .int) :: tb) rm_ClerkRows_answer (va_Pc [.ref a, .int x, .int y, .int en, .long t] (wd_preZ D classes (ty ca) f sz)) (va_Qi (fun r f' => (((∀ j : Nat, j < 20 → x ≠ nI j) ∨ (∀ i : Nat, i < n → y ≠ nI (i + 1))) ∧ r = -101 ∧ f' = f) ∨ ∃ j i : Nat, j < 20 ∧ i < n ∧ x = nI j ∧ y = nI (i + 1) ∧ ((¬ (wi en 9999 ∧ isT nw t) ∧ r = -102 ∧ f' = f) ∨ ((wi en 9999 ∧ isT nw t) ∧ (((∀ (q : Nat) (ck to : Int32) (ea : Option Nat) (te : Int32), ¬ (kTu (K j) = some q ∧ f q = some (eT (nI (i + 1)) ck to ea te))) ∧ r = -103 ∧ f' = f) ∨ ∃ (q : Nat) (ck to : Int32) (ea : Option Nat) (te : Int32), kTu (K j) = some q ∧ f q = some (eT (nI (i + 1)) ck to ea te) ∧ ∃ f1 : wd_M, f1 a = some (eR mo pa ka md t (lt + nI (cL t P n))) ∧ f1 pa = some (eA (ca 0) 300 gp) ∧ rp f1 gp n (pst t P n) ∧ (∀ q : Nat, q ≠ a → (∀ j : Nat, j < n → q ≠ pAd (P j)) → f1 q = f q) ∧ ∃ la : Option Nat, f1 (pAd (pst t P n i)) = some (eQ (nI (i + 1)) (pst t P n i) la) ∧ r = stt (tE (pWa (pst t P n i)) (pAn (pst t P n i) + 1) (pEn (pst t P n i)) (pSw (pst t P n i)) en (hasE en (pL (pst t P n i)))).2.1 (tE (pWa (pst t P n i)) (pAn (pst t P n i) + 1) (pEn (pst t P n i)) (pSw (pst t P n i)) en (hasE en (pL (pst t P n i)))).1 (tk (sE q en (pL (pst t P n i)))) ∧ f' = wd_up (wd_up (wd_up f1 (kAd (K j)) (eK (nI j) (kIn (K j)) (kOf (K j)) (kSk (K j)) none)) q (eT (nI (i + 1)) ck to ea en)) (pAd (pst t P n i)) (eP (nI (i + 1)) (pDu (pst t P n i)) (pSk (pst t P n i)) (tE (pWa (pst t P n i)) (pAn (pst t P n i) + 1) (pEn (pst t P n i)) (pSw (pst t P n i)) en (hasE en (pL (pst t P n i)))).1 (pAn (pst t P n i) + 1) (tE (pWa (pst t P n i)) (pAn (pst t P n i) + 1) (pEn (pst t P n i)) (pSw (pst t P n i)) en (hasE en (pL (pst t P n i)))).2.1 (tE (pWa (pst t P n i)) (pAn (pst t P n i) + 1) (pEn (pst t P n i)) (pSw (pst t P n i)) en (hasE en (pL (pst t P n i)))).2.2 la))))) (wd_B D classes f sz) (wd_A f sz)) 0 0 (wd_A f sz) := by
  refine wd_Qi (own := R_ClerkRows) (by decide) rfl (Nat.le_of_ble_eq_true rfl) ?_
  intro p e s m args below meth c Q X hK hw ret ls hl
  have hx := X.1
  have hb := X.2.1
  have hown := X.2.2.2.1
  have hts := X.2.2.2.2
  have hl : lv_has ls 9 [(0, .ref a), (1, .int x), (2, .int y), (3, .int en), (4, .long t)] := hl
  refine lv_aload_n hx hb d_ClerkRows_answer_0 rfl (lv_at hl 0 rfl) ?_
  refine lv_iload_n hx hb d_ClerkRows_answer_1 rfl (lv_at hl 1 rfl) ?_
  refine wd_cvq (As := [.int x]) (rest := []) X hK hw (c_ClerkRows_findClerk a mo pa ka md nw lt ha gk hgk x) (cw_ClerkRows_62 hts rfl rfl ⟨(Nat.le_of_ble_eq_true rfl), (Nat.le_of_ble_eq_true rfl)⟩) ha rfl rfl rfl hl.1 rfl (Nat.le_of_ble_eq_true rfl) d_ClerkRows_answer_2 ⟨(Nat.le_of_ble_eq_true rfl), (Nat.le_of_ble_eq_true rfl)⟩ (fun r hz => ?_)
  rcases hz with ⟨j, hj, hxj, hz⟩ | ⟨nxj, hz⟩
  · skip
    rw [(hrk j hj).1] at hz
    subst hz
    have hkj : f (kAd (K j)) = some (eJ (nI j) (K j)) := (hrk j hj).2
    refine lv_astore (lv' := [(6, .ref (kAd (K j))), (0, .ref a), (1, .int x), (2, .int y), (3, .int en), (4, .long t)]) hx hb d_ClerkRows_answer_5 hl (by decide) rfl (fun ls hl => ?_)
    refine lv_aload_n hx hb d_ClerkRows_answer_7 rfl (lv_at hl 1 rfl) ?_
    refine lv_iload_n hx hb d_ClerkRows_answer_8 rfl (lv_at hl 3 rfl) ?_
    refine wd_cvq (As := [.int y]) (rest := []) X hK hw (c_ClerkRows_findPicture a mo pa ka md nw lt ha gp hg y) (cw_ClerkRows_89 hts rfl rfl ⟨(Nat.le_of_ble_eq_true rfl), (Nat.le_of_ble_eq_true rfl)⟩) ha rfl rfl rfl hl.1 rfl (Nat.le_of_ble_eq_true rfl) d_ClerkRows_answer_9 ⟨(Nat.le_of_ble_eq_true rfl), (Nat.le_of_ble_eq_true rfl)⟩ (fun r hz => ?_)
    rcases hz with ⟨i, hi, hxi, hz⟩ | ⟨nxi, hz⟩
    · skip
      rcases Nat.lt_or_ge i n with hin | hin
      · skip
        obtain ⟨hgi, la, hpi, hci⟩ := hr.2.1 i hin
        rw [hgi] at hz
        subst hz
        refine lv_astore (lv' := [(7, .ref (pAd (P i))), (6, .ref (kAd (K j))), (0, .ref a), (1, .int x), (2, .int y), (3, .int en), (4, .long t)]) hx hb d_ClerkRows_answer_12 hl (by decide) rfl (fun ls hl => ?_)
        refine lv_aload hx hb d_ClerkRows_answer_14 (lv_at hl 1 rfl) ?_
        refine lv_ifnull hx hb d_ClerkRows_answer_16 ?_
        refine lv_aload hx hb d_ClerkRows_answer_19 (lv_at hl 0 rfl) ?_
        refine lv_ifnonnull (tgt := 27) hx hb d_ClerkRows_answer_21 (by decide) ?_
        refine lv_iload_n hx hb d_ClerkRows_answer_27 rfl (lv_at hl 5 rfl) ?_
        refine lv_sipush (v := 9999) hx hb d_ClerkRows_answer_28 (by decide) ?_
        refine wd_csi (As := [.int en, .int 9999]) (rest := []) X hK hw (c_ClerkRows_isWithin en 9999) (cw_ClerkRows_51 hts rfl rfl ⟨(Nat.le_of_ble_eq_true rfl), (Nat.le_of_ble_eq_true rfl)⟩) rfl hl.1 rfl (Nat.le_of_ble_eq_true rfl) d_ClerkRows_answer_31 ⟨(Nat.le_of_ble_eq_true rfl), (Nat.le_of_ble_eq_true rfl)⟩ (fun r hz => ?_)
        rcases hz with ⟨z1, rfl⟩ | ⟨z1, rfl⟩
        · skip
          refine lv_if_eq (tgt := 46) hx hb d_ClerkRows_answer_34 (by decide) (fun c2 => ?_) (fun c2 => ?_)
          · exact absurd c2 (by decide)
          · skip
            refine lv_aload_n hx hb d_ClerkRows_answer_37 rfl (lv_at hl 2 rfl) ?_
            refine lv_lload hx hb d_ClerkRows_answer_38 (lv_at hl 6 rfl) ?_
            refine wd_cvi (As := [.long t]) (rest := []) X hK hw (c_ClerkRows_isTime a mo pa ka md nw lt ha t) (cw_ClerkRows_47 hts rfl rfl ⟨(Nat.le_of_ble_eq_true rfl), (Nat.le_of_ble_eq_true rfl)⟩) ha rfl rfl rfl hl.1 rfl (Nat.le_of_ble_eq_true rfl) d_ClerkRows_answer_40 ⟨(Nat.le_of_ble_eq_true rfl), (Nat.le_of_ble_eq_true rfl)⟩ (fun r hz => ?_)
            rcases hz with ⟨z3, rfl⟩ | ⟨z3, rfl⟩
            · skip
              refine lv_if_ne (tgt := 49) hx hb d_ClerkRows_answer_43 (by decide) (fun c4 => ?_) (fun c4 => ?_)
              · skip
                rcases htu : kTu (K j) with _ | tq
                · skip
                  have hkj : f (kAd (K j)) = some (eK (nI j) (kIn (K j)) (kOf (K j)) (kSk (K j)) none) := by rw [← htu]; exact hkj
                  refine lv_aload hx hb d_ClerkRows_answer_49 (lv_at hl 1 rfl) ?_
                  refine fg_ClerkRows_70 X hK hw hkj d_ClerkRows_answer_51 ?_
                  refine lv_astoreN (lv' := [(8, .null), (7, .ref (pAd (P i))), (6, .ref (kAd (K j))), (0, .ref a), (1, .int x), (2, .int y), (3, .int en), (4, .long t)]) hx hb d_ClerkRows_answer_54 hl (by decide) rfl (fun ls hl => ?_)
                  refine lv_aloadN hx hb d_ClerkRows_answer_56 (lv_at hl 0 rfl) ?_
                  refine lv_ifnullN (tgt := 70) hx hb d_ClerkRows_answer_58 (by decide) ?_
                  refine lv_bipush (v := (-103)) hx hb d_ClerkRows_answer_70 (by decide) ?_
                  exact ret _ _ _ _ _ _ d_ClerkRows_answer_72 hw (Or.inr ⟨j, i, hj, hin, hxj, hxi, Or.inr ⟨⟨z1, z3⟩, Or.inl ⟨(fun q c o e t z => by rw [htu] at z; cases z.1), rfl, rfl⟩⟩⟩)
                · skip
                  obtain ⟨pn, ck, to, ea, te, ht⟩ := hT j hj tq htu
                  have ht0 := ht
                  have hkj : f (kAd (K j)) = some (eK (nI j) (kIn (K j)) (kOf (K j)) (kSk (K j)) (some tq)) := by rw [← htu]; exact hkj
                  refine lv_aload hx hb d_ClerkRows_answer_49 (lv_at hl 1 rfl) ?_
                  refine fg_ClerkRows_70 X hK hw hkj d_ClerkRows_answer_51 ?_
                  refine lv_astore (lv' := [(8, .ref tq), (7, .ref (pAd (P i))), (6, .ref (kAd (K j))), (0, .ref a), (1, .int x), (2, .int y), (3, .int en), (4, .long t)]) hx hb d_ClerkRows_answer_54 hl (by decide) rfl (fun ls hl => ?_)
                  refine lv_aload hx hb d_ClerkRows_answer_56 (lv_at hl 0 rfl) ?_
                  refine lv_ifnull hx hb d_ClerkRows_answer_58 ?_
                  refine lv_aload hx hb d_ClerkRows_answer_61 (lv_at hl 0 rfl) ?_
                  refine fg_ClerkRows_93 X hK hw ht d_ClerkRows_answer_63 ?_
                  refine lv_iload_n hx hb d_ClerkRows_answer_66 rfl (lv_at hl 5 rfl) ?_
                  refine lv_icmp_eq (tgt := 73) hx hb d_ClerkRows_answer_67 (by decide) (fun c5 => ?_) (fun c5 => ?_)
                  · skip
                    have hpn : pn = nI (i + 1) := c5.trans hxi
                    subst hpn
                    refine lv_aload_n hx hb d_ClerkRows_answer_73 rfl (lv_at hl 3 rfl) ?_
                    refine lv_lload hx hb d_ClerkRows_answer_74 (lv_at hl 7 rfl) ?_
                    refine wd_mvv (As := [.long t]) (rest := []) X hK hw (c_ClerkRows_passTo a mo pa ka md nw lt ha gp hg n P hr t) (cw_ClerkRows_74 hts rfl rfl ⟨(Nat.le_of_ble_eq_true rfl), (Nat.le_of_ble_eq_true rfl)⟩) ha rfl rfl rfl hl.1 rfl (Nat.le_of_ble_eq_true rfl) d_ClerkRows_answer_76 ⟨(Nat.le_of_ble_eq_true rfl), (Nat.le_of_ble_eq_true rfl)⟩ (fun f6 H locs hz hw => ?_)
                    obtain ⟨ha1, hg1, hr1, hk1⟩ := hz
                    have hgk1 : f6 ka = some (eA (ca 1) 20 gk) := ar_keep hgk ha hr hk1
                    have hrk1 : rk f6 gk K := rk_keep hrk ha hr hk1
                    have hkj1 : f6 (kAd (K j)) = some (eK (nI j) (kIn (K j)) (kOf (K j)) (kSk (K j)) (some tq)) := by rw [hk1 _ (wd_ne hkj ha (by decide)) (fun i hi => by obtain ⟨-, la, h2, -⟩ := hr.2.1 i hi; exact wd_ne hkj h2 (by decide))]; exact hkj
                    have ht1 : f6 tq = some (eT (nI (i + 1)) ck to ea te) := tu_keep ht ha hr hk1
                    obtain ⟨-, la1, hp1, hc1⟩ := hr1.2.1 i hin
                    have had : pAd (P i) = pAd (pst t P n i) := (pst_ad t P n i).symm
                    have hp10 := hp1
                    have ht10 := ht1
                    have hl : lv_has ls 9 [(8, .ref tq), (7, .ref (pAd (pst t P n i))), (6, .ref (kAd (K j))), (0, .ref a), (1, .int x), (2, .int y), (3, .int en), (4, .long t)] := by rw [← had]; exact hl
                    have hkj10 := hkj1
                    have ha10 := ha1
                    have hg10 := hg1
                    refine lv_aload hx hb d_ClerkRows_answer_79 (lv_at hl 2 rfl) ?_
                    refine lv_null hx hb d_ClerkRows_answer_81 ?_
                    refine fp_ClerkRows_70 X hK hw hkj1 rfl rfl d_ClerkRows_answer_82 (fun f7 H locs ef7 hw => ?_)
                    have ha1 : f7 a = some (eR mo pa ka md t (lt + nI (cL t P n))) := by rw [ef7, wd_un (wd_ne ha1 hkj1 (by decide))]; exact ha1
                    have hg1 : f7 pa = some (eA (ca 0) 300 gp) := by rw [ef7, wd_un (Ne.symm (wd_neA hkj1 hg1))]; exact hg1
                    have hgk1 : f7 ka = some (eA (ca 1) 20 gk) := by rw [ef7, wd_un (Ne.symm (wd_neA hkj1 hgk1))]; exact hgk1
                    have ht1 : f7 tq = some (eT (nI (i + 1)) ck to ea te) := by rw [ef7, wd_un (wd_ne ht1 hkj1 (by decide))]; exact ht1
                    have hp1 : f7 (pAd (pst t P n i)) = some (eP (nI (i + 1)) (pDu (pst t P n i)) (pSk (pst t P n i)) (pWa (pst t P n i)) (pAn (pst t P n i)) (pEn (pst t P n i)) (pSw (pst t P n i)) la1) := by rw [ef7, wd_un (wd_ne hp1 hkj1 (by decide))]; exact hp1
                    have hkj1 : f7 (kAd (K j)) = some (eK (nI j) (kIn (K j)) (kOf (K j)) (kSk (K j)) none) := by rw [ef7]; exact wd_us
                    refine lv_aload hx hb d_ClerkRows_answer_85 (lv_at hl 1 rfl) ?_
                    refine lv_aload hx hb d_ClerkRows_answer_87 (lv_at hl 0 rfl) ?_
                    refine lv_iload_n hx hb d_ClerkRows_answer_89 rfl (lv_at hl 6 rfl) ?_
                    have hc2 : cx f7 (nI (i + 1)) (pL (pst t P n i)) la1 := by rw [ef7]; exact cx_upC hkj10 (by decide) hc1
                    refine wd_mvv (As := [.ref tq, .int en]) (rest := []) X hK hw (c_Picture_takeEntry (pAd (pst t P n i)) (nI (i + 1)) (pDu (pst t P n i)) (pSk (pst t P n i)) (pWa (pst t P n i)) (pAn (pst t P n i)) (pEn (pst t P n i)) (pSw (pst t P n i)) la1 hp1 (pL (pst t P n i)) hc2 tq ck to ea te ht1 en) (cw_ClerkRows_98 hts rfl rfl ⟨(Nat.le_of_ble_eq_true rfl), (Nat.le_of_ble_eq_true rfl)⟩) hp1 rfl rfl rfl hl.1 rfl (Nat.le_of_ble_eq_true rfl) d_ClerkRows_answer_90 ⟨(Nat.le_of_ble_eq_true rfl), (Nat.le_of_ble_eq_true rfl)⟩ (fun f8 H locs ef8 hw => ?_)
                    have hc3 : cx f8 (nI (i + 1)) (sE tq en (pL (pst t P n i))) la1 := by rw [ef8]; exact cx_upC (by rw [wd_un (wd_ne hp1 ht1 (by decide))]; exact hp1) (by decide) (cx_entry ht1 _ _ hc2)
                    have hp1 : f8 (pAd (pst t P n i)) = some (eP (nI (i + 1)) (pDu (pst t P n i)) (pSk (pst t P n i)) ((tE (pWa (pst t P n i)) ((pAn (pst t P n i)) + 1) (pEn (pst t P n i)) (pSw (pst t P n i)) en (hasE en (pL (pst t P n i)))).1) ((pAn (pst t P n i)) + 1) ((tE (pWa (pst t P n i)) ((pAn (pst t P n i)) + 1) (pEn (pst t P n i)) (pSw (pst t P n i)) en (hasE en (pL (pst t P n i)))).2.1) ((tE (pWa (pst t P n i)) ((pAn (pst t P n i)) + 1) (pEn (pst t P n i)) (pSw (pst t P n i)) en (hasE en (pL (pst t P n i)))).2.2) la1) := by rw [ef8]; exact wd_us
                    refine lv_aload hx hb d_ClerkRows_answer_93 (lv_at hl 1 rfl) ?_
                    refine wd_cvi (As := []) (rest := []) X hK hw (c_Picture_findState (pAd (pst t P n i)) (nI (i + 1)) (pDu (pst t P n i)) (pSk (pst t P n i)) ((tE (pWa (pst t P n i)) ((pAn (pst t P n i)) + 1) (pEn (pst t P n i)) (pSw (pst t P n i)) en (hasE en (pL (pst t P n i)))).1) ((pAn (pst t P n i)) + 1) ((tE (pWa (pst t P n i)) ((pAn (pst t P n i)) + 1) (pEn (pst t P n i)) (pSw (pst t P n i)) en (hasE en (pL (pst t P n i)))).2.1) ((tE (pWa (pst t P n i)) ((pAn (pst t P n i)) + 1) (pEn (pst t P n i)) (pSw (pst t P n i)) en (hasE en (pL (pst t P n i)))).2.2) la1 hp1 (sE tq en (pL (pst t P n i))) hc3) (cw_ClerkRows_102 hts rfl rfl ⟨(Nat.le_of_ble_eq_true rfl), (Nat.le_of_ble_eq_true rfl)⟩) hp1 rfl rfl rfl hl.1 rfl (Nat.le_of_ble_eq_true rfl) d_ClerkRows_answer_95 ⟨(Nat.le_of_ble_eq_true rfl), (Nat.le_of_ble_eq_true rfl)⟩ (fun r hz => ?_)
                    subst hz
                    exact ret _ _ _ _ _ _ d_ClerkRows_answer_98 hw (Or.inr ⟨j, i, hj, hin, hxj, hxi, Or.inr ⟨⟨z1, z3⟩, Or.inr ⟨tq, ck, to, ea, te, htu, ht0, _, ha10, hg10, hr1, hk1, la1, hp10, rfl, by rw [ef8, ef7]; try rfl⟩⟩⟩)
                  · skip
                    refine lv_bipush (v := (-103)) hx hb d_ClerkRows_answer_70 (by decide) ?_
                    exact ret _ _ _ _ _ _ d_ClerkRows_answer_72 hw (Or.inr ⟨j, i, hj, hin, hxj, hxi, Or.inr ⟨⟨z1, z3⟩, Or.inl ⟨(fun q c o e t z => by rw [htu] at z; obtain ⟨z1, z2⟩ := z; cases z1; rw [ht0] at z2; simp only [Option.some.injEq, Sum.inr.injEq, Prod.mk.injEq, List.cons.injEq, Value.int.injEq] at z2; exact c5 (z2.2.1.trans hxi.symm)), rfl, rfl⟩⟩⟩)
              · exact absurd c4 (by decide)
            · skip
              refine lv_if_ne (tgt := 49) hx hb d_ClerkRows_answer_43 (by decide) (fun c9 => ?_) (fun c9 => ?_)
              · exact absurd c9 (by decide)
              · skip
                refine lv_bipush (v := (-102)) hx hb d_ClerkRows_answer_46 (by decide) ?_
                exact ret _ _ _ _ _ _ d_ClerkRows_answer_48 hw (Or.inr ⟨j, i, hj, hin, hxj, hxi, Or.inl ⟨(fun q => z3 q.2), rfl, rfl⟩⟩)
        · skip
          refine lv_if_eq (tgt := 46) hx hb d_ClerkRows_answer_34 (by decide) (fun c10 => ?_) (fun c10 => ?_)
          · skip
            refine lv_bipush (v := (-102)) hx hb d_ClerkRows_answer_46 (by decide) ?_
            exact ret _ _ _ _ _ _ d_ClerkRows_answer_48 hw (Or.inr ⟨j, i, hj, hin, hxj, hxi, Or.inl ⟨(fun q => z1 q.1), rfl, rfl⟩⟩)
          · exact absurd c10 (by decide)
      · skip
        rw [hr.2.2 i hin] at hz
        subst hz
        refine lv_astoreN (lv' := [(7, .null), (6, .ref (kAd (K j))), (0, .ref a), (1, .int x), (2, .int y), (3, .int en), (4, .long t)]) hx hb d_ClerkRows_answer_12 hl (by decide) rfl (fun ls hl => ?_)
        refine lv_aload hx hb d_ClerkRows_answer_14 (lv_at hl 1 rfl) ?_
        refine lv_ifnull hx hb d_ClerkRows_answer_16 ?_
        refine lv_aloadN hx hb d_ClerkRows_answer_19 (lv_at hl 0 rfl) ?_
        refine lv_ifnonnullN hx hb d_ClerkRows_answer_21 ?_
        refine lv_bipush (v := (-101)) hx hb d_ClerkRows_answer_24 (by decide) ?_
        exact ret _ _ _ _ _ _ d_ClerkRows_answer_26 hw (Or.inl ⟨Or.inr (no_Q hr.1 hi hxi hin), rfl, rfl⟩)
    · skip
      subst hz
      refine lv_astoreN (lv' := [(7, .null), (6, .ref (kAd (K j))), (0, .ref a), (1, .int x), (2, .int y), (3, .int en), (4, .long t)]) hx hb d_ClerkRows_answer_12 hl (by decide) rfl (fun ls hl => ?_)
      refine lv_aload hx hb d_ClerkRows_answer_14 (lv_at hl 1 rfl) ?_
      refine lv_ifnull hx hb d_ClerkRows_answer_16 ?_
      refine lv_aloadN hx hb d_ClerkRows_answer_19 (lv_at hl 0 rfl) ?_
      refine lv_ifnonnullN hx hb d_ClerkRows_answer_21 ?_
      refine lv_bipush (v := (-101)) hx hb d_ClerkRows_answer_24 (by decide) ?_
      exact ret _ _ _ _ _ _ d_ClerkRows_answer_26 hw (Or.inl ⟨Or.inr (no_P hr.1 nxi), rfl, rfl⟩)
  · skip
    subst hz
    refine lv_astoreN (lv' := [(6, .null), (0, .ref a), (1, .int x), (2, .int y), (3, .int en), (4, .long t)]) hx hb d_ClerkRows_answer_5 hl (by decide) rfl (fun ls hl => ?_)
    refine lv_aload_n hx hb d_ClerkRows_answer_7 rfl (lv_at hl 1 rfl) ?_
    refine lv_iload_n hx hb d_ClerkRows_answer_8 rfl (lv_at hl 3 rfl) ?_
    refine wd_cvq (As := [.int y]) (rest := []) X hK hw (c_ClerkRows_findPicture a mo pa ka md nw lt ha gp hg y) (cw_ClerkRows_89 hts rfl rfl ⟨(Nat.le_of_ble_eq_true rfl), (Nat.le_of_ble_eq_true rfl)⟩) ha rfl rfl rfl hl.1 rfl (Nat.le_of_ble_eq_true rfl) d_ClerkRows_answer_9 ⟨(Nat.le_of_ble_eq_true rfl), (Nat.le_of_ble_eq_true rfl)⟩ (fun r hz => ?_)
    rcases hz with ⟨i, hi, hxi, hz⟩ | ⟨nxi, hz⟩
    · skip
      rcases Nat.lt_or_ge i n with hin | hin
      · skip
        obtain ⟨hgi, la, hpi, hci⟩ := hr.2.1 i hin
        rw [hgi] at hz
        subst hz
        refine lv_astore (lv' := [(7, .ref (pAd (P i))), (6, .null), (0, .ref a), (1, .int x), (2, .int y), (3, .int en), (4, .long t)]) hx hb d_ClerkRows_answer_12 hl (by decide) rfl (fun ls hl => ?_)
        refine lv_aloadN hx hb d_ClerkRows_answer_14 (lv_at hl 1 rfl) ?_
        refine lv_ifnullN (tgt := 24) hx hb d_ClerkRows_answer_16 (by decide) ?_
        refine lv_bipush (v := (-101)) hx hb d_ClerkRows_answer_24 (by decide) ?_
        exact ret _ _ _ _ _ _ d_ClerkRows_answer_26 hw (Or.inl ⟨Or.inl (no_K nxj), rfl, rfl⟩)
      · skip
        rw [hr.2.2 i hin] at hz
        subst hz
        refine lv_astoreN (lv' := [(7, .null), (6, .null), (0, .ref a), (1, .int x), (2, .int y), (3, .int en), (4, .long t)]) hx hb d_ClerkRows_answer_12 hl (by decide) rfl (fun ls hl => ?_)
        refine lv_aloadN hx hb d_ClerkRows_answer_14 (lv_at hl 1 rfl) ?_
        refine lv_ifnullN (tgt := 24) hx hb d_ClerkRows_answer_16 (by decide) ?_
        refine lv_bipush (v := (-101)) hx hb d_ClerkRows_answer_24 (by decide) ?_
        exact ret _ _ _ _ _ _ d_ClerkRows_answer_26 hw (Or.inl ⟨Or.inl (no_K nxj), rfl, rfl⟩)
    · skip
      subst hz
      refine lv_astoreN (lv' := [(7, .null), (6, .null), (0, .ref a), (1, .int x), (2, .int y), (3, .int en), (4, .long t)]) hx hb d_ClerkRows_answer_12 hl (by decide) rfl (fun ls hl => ?_)
      refine lv_aloadN hx hb d_ClerkRows_answer_14 (lv_at hl 1 rfl) ?_
      refine lv_ifnullN (tgt := 24) hx hb d_ClerkRows_answer_16 (by decide) ?_
      refine lv_bipush (v := (-101)) hx hb d_ClerkRows_answer_24 (by decide) ?_
      exact ret _ _ _ _ _ _ d_ClerkRows_answer_26 hw (Or.inl ⟨Or.inl (no_K nxj), rfl, rfl⟩)
end
section
abbrev rm_ClerkRows_init : Room := { frames := 2, cells := 22, slots := 420, locals := 33 }
set_option maxHeartbeats 4000000 in
set_option maxRecDepth 100000 in
theorem c_ClerkRows_init {l : Launch} {D : va_G} {ca : Nat → ClassId} {f : wd_M} {sz : Nat} (a : Nat) (ha : f a = some (.inr (0, [.int 0, .null, .null, .int 0, .long 0, .int 0]))) (x : Int32) : Met l y_ClerkRows_init (.code y_ClerkRows_init b_ClerkRows_init 3 none :: tb) rm_ClerkRows_init (va_Pc [.ref a, .int x] (wd_preA "ClerkRows$Picture" "ClerkRows$Clerk" D classes (ty ca) f sz)) (va_Qv (fun f' => ∃ (pa ka : Nat) (gk : Nat → Option Nat) (K : Nat → KT), f' a = some (eR (mx x) pa ka 0 0 0) ∧ f' pa = some (eA (ca 0) 300 (fun _ => none)) ∧ f' ka = some (eA (ca 1) 20 gk) ∧ rk f' gk K ∧ ∀ j : Nat, j < 20 → kIn (K j) = 0 ∧ kOf (K j) = 0 ∧ kSk (K j) = 0 ∧ kTu (K j) = none) (wd_B D classes f sz) (wd_A f sz)) 22 420 (wd_A f sz) := by
  refine wd_QvA (own := R_ClerkRows) (by decide) rfl (Nat.le_of_ble_eq_true rfl) ?_
  intro p e s m args below meth c Q X hK hnm hao hw ret ls hl
  have hx := X.1
  have hb := X.2.1
  have hown := X.2.2.2.1
  have hts := X.2.2.2.2
  have hl : lv_has ls 3 [(0, .ref a), (1, .int x)] := hl
  refine lv_aload_n hx hb d_ClerkRows_init_0 rfl (lv_at hl 0 rfl) ?_
  refine wd_obj X ml_ClerkRows_1 im_obj cd_obj hl.1 d_ClerkRows_init_1 (Nat.le_of_ble_eq_true rfl) (Nat.le_of_ble_eq_true rfl) ?_
  refine lv_aload_n hx hb d_ClerkRows_init_4 rfl (lv_at hl 0 rfl) ?_
  refine lv_sipush (v := 300) hx hb d_ClerkRows_init_5 (by decide) ?_
  refine wd_newq X hK hw cl_ClerkRows_9 hao.1 0 rfl (N' := 300) (by decide) (by decide) (by decide) (Nat.le_of_ble_eq_true rfl) (Nat.le_of_ble_eq_true rfl) d_ClerkRows_init_8 (fun pa f1 H epa hpa ef1 hw => ?_)
  have ha : f1 a = some (.inr (0, [.int 0, .null, .null, .int 0, .long 0, .int 0])) := by rw [ef1, wd_un (wd_neF ha hpa)]; exact ha
  have hg : f1 pa = some (eA (ca 0) 300 (fun _ => none)) := by rw [ef1]; exact wd_us
  refine fp_ClerkRows_11 X hK hw hnm ha rfl rfl d_ClerkRows_init_11 (fun f2 H locs ef2 hw => ?_)
  have hg : f2 pa = some (eA (ca 0) 300 (fun _ => none)) := by rw [ef2, wd_un (Ne.symm (wd_neA ha hg))]; exact hg
  have ha : f2 a = some (.inr (0, [.int 0, .ref pa, .null, .int 0, .long 0, .int 0])) := by rw [ef2]; exact wd_us
  refine lv_aload_n hx hb d_ClerkRows_init_14 rfl (lv_at hl 0 rfl) ?_
  refine lv_bipush (v := 20) hx hb d_ClerkRows_init_15 (by decide) ?_
  have hg1x := hg
  refine wd_newq X hK hw cl_ClerkRows_15 hao.2 1 rfl (N' := 20) (by decide) (by decide) (by decide) (Nat.le_of_ble_eq_true rfl) (Nat.le_of_ble_eq_true rfl) d_ClerkRows_init_17 (fun ka f3 H eka hka ef3 hw => ?_)
  have ha : f3 a = some (.inr (0, [.int 0, .ref pa, .null, .int 0, .long 0, .int 0])) := by rw [ef3, wd_un (wd_neF ha hka)]; exact ha
  have hg : f3 pa = some (eA (ca 0) 300 (fun _ => none)) := by rw [ef3, wd_un (wd_neF hg hka)]; exact hg
  have hgk : f3 ka = some (eA (ca 1) 20 (fun _ => none)) := by rw [ef3]; exact wd_us
  have hpk0 : pa ≠ ka := wd_neF hg1x hka
  refine fp_ClerkRows_17 X hK hw hnm ha rfl rfl d_ClerkRows_init_20 (fun f4 H locs ef4 hw => ?_)
  have hg : f4 pa = some (eA (ca 0) 300 (fun _ => none)) := by rw [ef4, wd_un (Ne.symm (wd_neA ha hg))]; exact hg
  have hgk : f4 ka = some (eA (ca 1) 20 (fun _ => none)) := by rw [ef4, wd_un (Ne.symm (wd_neA ha hgk))]; exact hgk
  have ha : f4 a = some (eR 0 pa ka 0 0 0) := by rw [ef4]; exact wd_us
  refine lv_aload_n hx hb d_ClerkRows_init_23 rfl (lv_at hl 0 rfl) ?_
  refine lv_iconst (v := 0) hx hb d_ClerkRows_init_24 (by decide) ?_
  refine fp_ClerkRows_21 X hK hw ha rfl rfl d_ClerkRows_init_25 (fun f5 H locs ef5 hw => ?_)
  have hg : f5 pa = some (eA (ca 0) 300 (fun _ => none)) := by rw [ef5, wd_un (Ne.symm (wd_neA ha hg))]; exact hg
  have hgk : f5 ka = some (eA (ca 1) 20 (fun _ => none)) := by rw [ef5, wd_un (Ne.symm (wd_neA ha hgk))]; exact hgk
  have ha : f5 a = some (eR 0 pa ka 0 0 0) := by rw [ef5]; exact wd_us
  refine lv_aload_n hx hb d_ClerkRows_init_28 rfl (lv_at hl 0 rfl) ?_
  refine lv_lconst (v := 0) hx hb d_ClerkRows_init_29 (by decide) ?_
  refine fp_ClerkRows_25 X hK hw ha rfl rfl d_ClerkRows_init_30 (fun f6 H locs ef6 hw => ?_)
  have hg : f6 pa = some (eA (ca 0) 300 (fun _ => none)) := by rw [ef6, wd_un (Ne.symm (wd_neA ha hg))]; exact hg
  have hgk : f6 ka = some (eA (ca 1) 20 (fun _ => none)) := by rw [ef6, wd_un (Ne.symm (wd_neA ha hgk))]; exact hgk
  have ha : f6 a = some (eR 0 pa ka 0 0 0) := by rw [ef6]; exact wd_us
  refine lv_aload_n hx hb d_ClerkRows_init_33 rfl (lv_at hl 0 rfl) ?_
  refine lv_iconst (v := 0) hx hb d_ClerkRows_init_34 (by decide) ?_
  refine fp_ClerkRows_29 X hK hw ha rfl rfl d_ClerkRows_init_35 (fun f7 H locs ef7 hw => ?_)
  have hg : f7 pa = some (eA (ca 0) 300 (fun _ => none)) := by rw [ef7, wd_un (Ne.symm (wd_neA ha hg))]; exact hg
  have hgk : f7 ka = some (eA (ca 1) 20 (fun _ => none)) := by rw [ef7, wd_un (Ne.symm (wd_neA ha hgk))]; exact hgk
  have ha : f7 a = some (eR 0 pa ka 0 0 0) := by rw [ef7]; exact wd_us
  refine lv_aload_n hx hb d_ClerkRows_init_38 rfl (lv_at hl 0 rfl) ?_
  refine lv_iconst (v := 1) hx hb d_ClerkRows_init_39 (by decide) ?_
  refine lv_bipush (v := 100) hx hb d_ClerkRows_init_40 (by decide) ?_
  refine lv_iload_n hx hb d_ClerkRows_init_42 rfl (lv_at hl 1 rfl) ?_
  refine va_mmin hx hb (X.2.2.1.trans hl.1.symm) hown (hts _ ml_ClerkRows_32) (hts _ sm_min) (hts _ in_Math) (hts _ cd_min) (Nat.le_of_ble_eq_true rfl) (Nat.le_of_ble_eq_true rfl) (Nat.le_of_ble_eq_true rfl) (Nat.le_of_ble_eq_true rfl) d_ClerkRows_init_43 ?_
  refine va_mmax hx hb (X.2.2.1.trans hl.1.symm) hown (hts _ ml_ClerkRows_38) (hts _ sm_max) (hts _ in_Math) (hts _ cd_max) (Nat.le_of_ble_eq_true rfl) (Nat.le_of_ble_eq_true rfl) (Nat.le_of_ble_eq_true rfl) (Nat.le_of_ble_eq_true rfl) d_ClerkRows_init_46 ?_
  refine fp_ClerkRows_41 X hK hw hnm ha rfl rfl d_ClerkRows_init_49 (fun f8 H locs ef8 hw => ?_)
  have hg : f8 pa = some (eA (ca 0) 300 (fun _ => none)) := by rw [ef8, wd_un (Ne.symm (wd_neA ha hg))]; exact hg
  have hgk : f8 ka = some (eA (ca 1) 20 (fun _ => none)) := by rw [ef8, wd_un (Ne.symm (wd_neA ha hgk))]; exact hgk
  have ha : f8 a = some (eR (mx x) pa ka 0 0 0) := by rw [ef8]; exact wd_us
  refine lv_iconst (v := 0) hx hb d_ClerkRows_init_52 (by decide) ?_
  refine lv_istore_n (lv' := [(2, .int 0), (0, .ref a), (1, .int x)]) hx hb d_ClerkRows_init_53 rfl hl (by decide) rfl (fun ls hl => ?_)
  have hpk : ka ≠ pa := Ne.symm hpk0
  have loop : ∀ (d i : Nat) (gk : Nat → Option Nat) (kd : Nat → Nat) (f1 : wd_M) (H : Heap) (locs : List Loc) (ls : Array Slot), 20 = i + d → wd_I D classes (wd_A f s.heap.size) s.heap f1 H locs → f1 a = some (eR (mx x) pa ka 0 0 0) → f1 pa = some (eA (ca 0) 300 (fun _ => none)) → f1 ka = some (eA (ca 1) 20 gk) → (∀ j : Nat, j < i → gk j = some (kd j) ∧ f1 (kd j) = some (eK (nI j) 0 0 0 none)) → lv_has ls 3 [(2, .int (nI i)), (0, .ref a), (1, .int x)] → W p l e rm_ClerkRows_init s m args below meth c H locs (2 + i) (320 + 5 * i) Q (F0 m 54 ls []) := by
    intro d
    induction d with
    | zero =>
      intro i gk kd f1 H locs ls hd hw ha hg hgk hkd hl
      have hi : i = 20 := by omega
      subst hi
      refine lv_iload_n hx hb d_ClerkRows_init_54 rfl (lv_at hl 0 rfl) ?_
      refine lv_bipush (v := 20) hx hb d_ClerkRows_init_55 (by decide) ?_
      refine lv_icmp_ge (tgt := 80) hx hb d_ClerkRows_init_57 (by decide) (fun _ => ?_) (fun c => absurd (by decide) c)
      refine W.widen (k := 22) (n := 420) (Nat.le_refl _) (Nat.le_refl _) ?_
      exact ret _ _ _ _ _ d_ClerkRows_init_80 hw ⟨pa, ka, gk, fun j => (kd j, 0, 0, 0, none), ha, hg, hgk, fun j hj => hkd j hj, fun j hj => ⟨rfl, rfl, rfl, rfl⟩⟩
    | succ d ih =>
      intro i gk kd f1 H locs ls hd hw ha hg hgk hkd hl
      have hi : i < 20 := by omega
      refine lv_iload_n hx hb d_ClerkRows_init_54 rfl (lv_at hl 0 rfl) ?_
      refine lv_bipush (v := 20) hx hb d_ClerkRows_init_55 (by decide) ?_
      refine lv_icmp_ge (tgt := 80) hx hb d_ClerkRows_init_57 (by decide) (fun c => absurd c (nI_ge hi (by decide))) (fun _ => ?_)
      refine lv_aload_n hx hb d_ClerkRows_init_60 rfl (lv_at hl 1 rfl) ?_
      refine fg_ClerkRows_17 X hK hw ha d_ClerkRows_init_61 ?_
      refine lv_iload_n hx hb d_ClerkRows_init_64 rfl (lv_at hl 0 rfl) ?_
      have hgk0 := hgk
      refine nw_ClerkRows_15 X hK hw (by show 2 + i + 1 ≤ 22; omega) (by show 320 + 5 * i + 5 ≤ 420; omega) d_ClerkRows_init_65 (fun q9 f10 H eq9 hq9 ef10 hw => ?_)
      have ha : f10 a = some (eR (mx x) pa ka 0 0 0) := by rw [ef10, wd_un (wd_neF ha hq9)]; exact ha
      have hg : f10 pa = some (eA (ca 0) 300 (fun _ => none)) := by rw [ef10, wd_un (wd_neF hg hq9)]; exact hg
      have hgk : f10 ka = some (eA (ca 1) 20 gk) := by rw [ef10, wd_un (wd_neF hgk hq9)]; exact hgk
      have h_q9 : f10 q9 = some (eK 0 0 0 0 none) := by rw [ef10]; exact wd_us
      refine lv_dup hx hb d_ClerkRows_init_68 rfl ?_
      refine lv_iload_n hx hb d_ClerkRows_init_69 rfl (lv_at hl 0 rfl) ?_
      refine wd_mI (As := [.int (nI i)]) (rest := [.ref q9, .int (nI i), .ref ka]) X hK hw (c_Clerk_init q9 h_q9 (nI i)) (cw_ClerkRows_44 hts rfl rfl ⟨(Nat.le_of_ble_eq_true rfl), (Nat.le_of_ble_eq_true rfl)⟩) rfl hl.1 rfl (Nat.le_of_ble_eq_true rfl) d_ClerkRows_init_70 ⟨by show 2 + i + 1 + 0 ≤ 22; omega, by show 320 + 5 * i + 5 + 0 ≤ 420; omega⟩ (fun f11 H locs ef11 hw => ?_)
      have ha : f11 a = some (eR (mx x) pa ka 0 0 0) := by rw [ef11, wd_un (wd_ne ha h_q9 (by decide))]; exact ha
      have hg : f11 pa = some (eA (ca 0) 300 (fun _ => none)) := by rw [ef11, wd_un (Ne.symm (wd_neA h_q9 hg))]; exact hg
      have hgk : f11 ka = some (eA (ca 1) 20 gk) := by rw [ef11, wd_un (Ne.symm (wd_neA h_q9 hgk))]; exact hgk
      have h_q9 : f11 q9 = some (eK (nI i) 0 0 0 none) := by rw [ef11]; exact wd_us
      refine wd_astS X hK hw hgk 1 (r := (R_Clerk, F_Clerk, 5)) rfl h_q9 rfl hi (by decide) d_ClerkRows_init_73 (fun f12 H locs ef12 hw => ?_)
      have ha : f12 a = some (eR (mx x) pa ka 0 0 0) := by rw [ef12, wd_un (wd_neA ha hgk)]; exact ha
      have hg : f12 pa = some (eA (ca 0) 300 (fun _ => none)) := by rw [ef12, wd_un (Ne.symm hpk)]; exact hg
      have h_q9 : f12 q9 = some (eK (nI i) 0 0 0 none) := by rw [ef12, wd_un (wd_neA h_q9 hgk)]; exact h_q9
      have hgk : f12 ka = some (eA (ca 1) 20 (va_up gk i (some q9))) := by rw [ef12]; exact wd_us
      refine lv_iinc (v := ((nI i) + 1)) (lv' := [(2, .int ((nI i) + 1)), (0, .ref a), (1, .int x)]) hx hb d_ClerkRows_init_74 hl (k := 0) rfl rfl (by decide) rfl (fun ls hl => ?_)
      refine lv_goto (tgt := 54) hx hb d_ClerkRows_init_77 (by decide) ?_
      refine W.cs (cells' := 2 + (i + 1)) (slots' := 320 + 5 * (i + 1)) (by omega) (by omega) ?_
      refine ih (i + 1) (va_up gk i (some q9)) (va_up kd i q9) _ _ _ ls (by omega) hw ha hg hgk (fun j hj => ?_) (by rw [nI_succ i]; exact lv_sub hl [0, 1, 2] rfl)
      by_cases hji : j = i
      · subst hji
        rw [show va_up gk j (some q9) j = some q9 by simp [va_up], show va_up kd j q9 j = q9 by simp [va_up]]
        exact ⟨rfl, h_q9⟩
      · rw [show va_up gk i (some q9) j = gk j by simp [va_up, hji], show va_up kd i q9 j = kd j by simp [va_up, hji]]
        obtain ⟨g1, g2⟩ := hkd j (by omega)
        refine ⟨g1, ?_⟩
        exact ini_keep ef10 ef11 ef12 g2 hq9 hgk0
  refine W.cs (cells' := 2 + 0) (slots' := 320 + 5 * 0) rfl rfl ?_
  exact loop 20 0 (fun _ => none) (fun _ => 0) _ _ _ ls rfl hw ha hg hgk (fun j hj => absurd hj (Nat.not_lt_zero j)) (lv_sub hl [0, 1, 2] rfl)
end
section
section WDZ
variable {p : Program} {l : Launch} {e : Env} {R : Room} {s : State} {m : MethodId} {args : Array Value} {below : List Frame} {meth : Method} {c : Code} {H : Heap} {locs : List Loc} {cells slots : Nat} {Q : State → Prop}
variable {cc : ByteArray} {pc nL : Nat} {ls : Array Slot} {rest st0 : List Value} {D : va_G} {cl : List vw_C} {A : Nat → Prop} {a : Nat} {tys : List (ClassId × FieldType)} {H0 : Heap} {f : wd_M} {own : String} {Ts : List Cond}
theorem wd_zast (X : CallFix p m c cc nL s args Ts own) (hK : va_K D cl tys s) (hw : wd_I D cl A H0 f H locs) {cA : ClassId} {n : Nat} {g : Nat → Int32} (ha : f a = some (.inl (cA, n, .inl g))) (t0 : Nat) (ht : tys[t0]? = some (cA, .boolean)) {i x : Int32} (hin : vp_in i n) (hdg : decode cc pc = .ok (.bastore, 1))
    (kk : ∀ (f1 : wd_M) (H1 : Heap) (locs1 : List Loc), f1 = wd_up f a (.inl (cA, n, .inl (upd g i.toNatClampNeg (vp_nar .boolean x)))) → wd_I D cl A H0 f1 H1 locs1 → W p l e R s m args below meth c H1 locs1 cells slots Q (F0 m (pc + 1) ls rest)) : W p l e R s m args below meth c H locs cells slots Q (F0 m pc ls (.int x :: .int i :: .ref a :: rest)) := by
  refine W.zast X.1 X.2.1 (hw.1 _ _ ha) ((hK.2 t0 _ ht).1 n (fun j => .int (g j))) (fun q => by cases q) (by show ¬ (i < 0 ∨ (arrV _ _ _).slots.size ≤ _); rw [arrV_size]; exact hin) rfl rfl hdg fun H1 e z oq => ?_
  refine kk _ H1 _ rfl (hw.set ha ?_ z oq)
  show H1[a]? = some (vp_cell _ _)
  rw [e]
  rw [vp_cell_i, vp_cell_i, arrV_store]
  congr 2
  funext q
  by_cases hq : q = i.toNatClampNeg
  · subst hq
    simp [updV, upd, vp_nar]
    try rfl
  · simp [updV, upd, hq]
end WDZ
section WDC2
variable {p : Program} {l : Launch} {e : Env} {R : Room} {s : State} {m : MethodId} {args : Array Value} {below : List Frame} {meth : Method} {c : Code} {H : Heap} {locs : List Loc} {cells slots : Nat} {Q : State → Prop}
variable {cc bytes : ByteArray} {pc nL maxL n index mc ms ci b : Nat} {ls : Array Slot} {As rest st0 fs : List Value} {D : va_G} {cl : List vw_C} {A : Nat → Prop} {tys : List (ClassId × FieldType)} {H0 : Heap} {f : wd_M} {own C : String} {Ts ws : List Cond} {y : MethodName} {ret : Option FieldType} {rm : Room} {q : vw_C}
theorem wd_wl {post : Int64 → wd_M → Prop} {v : Int64} {f1 : wd_M} (X : CallFix p m c cc nL s args Ts own) (hr : meth.sig.returnType = some .long) (hlk : meth.locks = false) (hw : wd_I D cl (wd_A f s.heap.size) s.heap f1 H locs) (hdg : decode cc pc = .ok (.lreturn, 1)) (hp : post v f1) : W p l e R s m args below meth c H locs cells slots (MQ below (va_Ql post (wd_B D cl f s.heap.size) (wd_A f s.heap.size)) args s cells slots (wd_A f s.heap.size)) (F0 m pc ls [.long v]) :=
  W.lret X.1 X.2.1 hr (fun t ht _ => ⟨⟨v, f1, rfl, hp, by rw [ht]; exact hw.1, hw.2.2.1⟩, hw.2.1.F ht⟩) hw.2.1.2.2 hdg hlk
end WDC2
section WDS2
variable {l : Launch} {y : MethodName} {Ts : List Cond} {rm : Room} {cc : ByteArray} {maxL : Nat} {av : List Value} {own : String} {D : va_G} {cl : List vw_C} {tys : List (ClassId × FieldType)} {f : wd_M}
theorem wd_Ql {post : Int64 → wd_M → Prop} {mc ms : Nat} (hy : plainName y.cls = true) (ho : y.cls = own) (hlen : (lg_sl av).length ≤ maxL) {sz : Nat}
    (body : ∀ (p : Program) (e : Env) (s : State) (m : MethodId) (args : Array Value) (below : List Frame) (meth : Method) (c : Code) (Q : State → Prop), CallFix p m c cc maxL s args Ts own → va_K D cl tys s → wd_I D cl (wd_A f s.heap.size) s.heap f s.heap [] → (∀ (pc : Nat) (ls : Array Slot) (v : Int64) (f1 : wd_M) (H : Heap) (locs : List Loc), decode cc pc = .ok (.lreturn, 1) → wd_I D cl (wd_A f s.heap.size) s.heap f1 H locs → post v f1 → W p l e rm s m args below meth c H locs mc ms Q (F0 m pc ls [.long v])) → ∀ ls : Array Slot, lv_has ls maxL (lv_args 0 av) → W p l e rm s m args below meth c s.heap [] 0 0 Q (F0 m 0 ls [])) :
    Met l y (.code y cc maxL (some .long) :: Ts) rm (va_Pc av (wd_preZ D cl tys f sz)) (va_Ql post (wd_B D cl f sz) (wd_A f sz)) mc ms (wd_A f sz) := by
  refine wd_met hy ho hlen fun p e s m below meth c X hr hlk _ hpre ls hl => ?_
  obtain ⟨rfl, hP, hK⟩ := hpre
  exact body p e s m _ below meth c _ X hK (wd_I.start hP) (fun _ _ _ _ _ _ hd hw hp => wd_wl X hr hlk hw hd hp) ls hl
end WDS2
section WDJ2
variable {p : Program} {l : Launch} {e : Env} {R : Room} {s : State} {m : MethodId} {args : Array Value} {below : List Frame} {meth : Method} {c : Code} {H : Heap} {locs : List Loc} {cells slots : Nat} {Q : State → Prop}
variable {cc bytes : ByteArray} {pc nL maxL n index mc ms ci b : Nat} {ls : Array Slot} {As rest st0 fs : List Value} {D : va_G} {cl : List vw_C} {A : Nat → Prop} {tys : List (ClassId × FieldType)} {H0 : Heap} {f g : wd_M} {own C : String} {Ts ws : List Cond} {y : MethodName} {ret : Option FieldType} {rm : Room} {q : vw_C}
theorem wd_jvl {post : Int64 → wd_M → Prop} (X : CallFix p m c cc nL s args Ts own) (hK : va_K D cl tys s) (hj : wd_J D cl A H0 f g H locs) (hM : Met l y ws rm (va_Pc (.ref b :: As) (wd_preZ D cl tys f H.size)) (va_Ql post (wd_B D cl f H.size) (wd_A f H.size)) mc ms (wd_A f H.size)) (cw : CallW R s args own C index y bytes maxL ret ws rm mc ms n) (hbf : f b = some (.inr (ci, fs))) (hc : cl[ci]? = some q) (hq : q.1 = C) (hn : As.length = n) (hsize : ls.size = nL) (hst : st0 = As.reverse ++ .ref b :: rest) (hroom : (rest.map fun v => v.category).sum ≤ 8) (hdg : decode cc pc = .ok (.invokevirtual index, 3)) (hf : cells + mc ≤ R.cells ∧ slots + ms ≤ R.slots)
    (kk : ∀ (r : Int64) (f1 : wd_M) (H1 : Heap) (locs1 : List Loc), post r f1 → wd_J D cl A H0 f1 g H1 locs1 → W p l e R s m args below meth c H1 locs1 (cells + mc) (slots + ms) Q (F0 m (pc + 3) ls (.long r :: rest))) : W p l e R s m args below meth c H locs cells slots Q (F0 m pc ls st0) :=
  va_calll (va_runV (g := F0 m pc ls st0) X hM cw (wd_preVZ hK hj.1 hbf hc hq) rfl hn hsize hst (lv_room hroom) hdg hf) hj.1.2.1 (fun _ _ h => hj.1.sub h) (fun _ h => hj.1.sub h) (fun r u t H1 locs1 ht _ hp hB _ hk hS => kk r u H1 locs1 hp (hj.after (by rw [← ht]; exact hB.1) hB.2 hS hk))
end WDJ2
end
section
theorem d_Model_init_0 : decode b_Model_init 0 = .ok (.aload_n 0, 1) := by decide +kernel
theorem d_Model_init_1 : decode b_Model_init 1 = .ok (.invokespecial 1, 3) := by decide +kernel
theorem d_Model_init_4 : decode b_Model_init 4 = .ok (.aload_n 0, 1) := by decide +kernel
theorem d_Model_init_5 : decode b_Model_init 5 = .ok (.sipush 301, 3) := by decide +kernel
theorem d_Model_init_8 : decode b_Model_init 8 = .ok (.newarray .long, 2) := by decide +kernel
theorem d_Model_init_10 : decode b_Model_init 10 = .ok (.putfield 7, 3) := by decide +kernel
theorem d_Model_init_13 : decode b_Model_init 13 = .ok (.aload_n 0, 1) := by decide +kernel
theorem d_Model_init_14 : decode b_Model_init 14 = .ok (.sipush 301, 3) := by decide +kernel
theorem d_Model_init_17 : decode b_Model_init 17 = .ok (.newarray .int, 2) := by decide +kernel
theorem d_Model_init_19 : decode b_Model_init 19 = .ok (.putfield 13, 3) := by decide +kernel
theorem d_Model_init_22 : decode b_Model_init 22 = .ok (.aload_n 0, 1) := by decide +kernel
theorem d_Model_init_23 : decode b_Model_init 23 = .ok (.sipush 301, 3) := by decide +kernel
theorem d_Model_init_26 : decode b_Model_init 26 = .ok (.newarray .int, 2) := by decide +kernel
theorem d_Model_init_28 : decode b_Model_init 28 = .ok (.putfield 17, 3) := by decide +kernel
theorem d_Model_init_31 : decode b_Model_init 31 = .ok (.aload_n 0, 1) := by decide +kernel
theorem d_Model_init_32 : decode b_Model_init 32 = .ok (.sipush 301, 3) := by decide +kernel
theorem d_Model_init_35 : decode b_Model_init 35 = .ok (.newarray .int, 2) := by decide +kernel
theorem d_Model_init_37 : decode b_Model_init 37 = .ok (.putfield 20, 3) := by decide +kernel
theorem d_Model_init_40 : decode b_Model_init 40 = .ok (.aload_n 0, 1) := by decide +kernel
theorem d_Model_init_41 : decode b_Model_init 41 = .ok (.sipush 301, 3) := by decide +kernel
theorem d_Model_init_44 : decode b_Model_init 44 = .ok (.newarray .int, 2) := by decide +kernel
theorem d_Model_init_46 : decode b_Model_init 46 = .ok (.putfield 23, 3) := by decide +kernel
theorem d_Model_init_49 : decode b_Model_init 49 = .ok (.aload_n 0, 1) := by decide +kernel
theorem d_Model_init_50 : decode b_Model_init 50 = .ok (.sipush 903, 3) := by decide +kernel
theorem d_Model_init_53 : decode b_Model_init 53 = .ok (.newarray .int, 2) := by decide +kernel
theorem d_Model_init_55 : decode b_Model_init 55 = .ok (.putfield 26, 3) := by decide +kernel
theorem d_Model_init_58 : decode b_Model_init 58 = .ok (.aload_n 0, 1) := by decide +kernel
theorem d_Model_init_59 : decode b_Model_init 59 = .ok (.sipush 6020, 3) := by decide +kernel
theorem d_Model_init_62 : decode b_Model_init 62 = .ok (.newarray .int, 2) := by decide +kernel
theorem d_Model_init_64 : decode b_Model_init 64 = .ok (.putfield 29, 3) := by decide +kernel
theorem d_Model_init_67 : decode b_Model_init 67 = .ok (.aload_n 0, 1) := by decide +kernel
theorem d_Model_init_68 : decode b_Model_init 68 = .ok (.sipush 6020, 3) := by decide +kernel
theorem d_Model_init_71 : decode b_Model_init 71 = .ok (.newarray .int, 2) := by decide +kernel
theorem d_Model_init_73 : decode b_Model_init 73 = .ok (.putfield 32, 3) := by decide +kernel
theorem d_Model_init_76 : decode b_Model_init 76 = .ok (.aload_n 0, 1) := by decide +kernel
theorem d_Model_init_77 : decode b_Model_init 77 = .ok (.sipush 6020, 3) := by decide +kernel
theorem d_Model_init_80 : decode b_Model_init 80 = .ok (.newarray .int, 2) := by decide +kernel
theorem d_Model_init_82 : decode b_Model_init 82 = .ok (.putfield 35, 3) := by decide +kernel
theorem d_Model_init_85 : decode b_Model_init 85 = .ok (.aload_n 0, 1) := by decide +kernel
theorem d_Model_init_86 : decode b_Model_init 86 = .ok (.bipush 20, 2) := by decide +kernel
theorem d_Model_init_88 : decode b_Model_init 88 = .ok (.newarray .boolean, 2) := by decide +kernel
theorem d_Model_init_90 : decode b_Model_init 90 = .ok (.putfield 38, 3) := by decide +kernel
theorem d_Model_init_93 : decode b_Model_init 93 = .ok (.aload_n 0, 1) := by decide +kernel
theorem d_Model_init_94 : decode b_Model_init 94 = .ok (.bipush 20, 2) := by decide +kernel
theorem d_Model_init_96 : decode b_Model_init 96 = .ok (.newarray .int, 2) := by decide +kernel
theorem d_Model_init_98 : decode b_Model_init 98 = .ok (.putfield 42, 3) := by decide +kernel
theorem d_Model_init_101 : decode b_Model_init 101 = .ok (.aload_n 0, 1) := by decide +kernel
theorem d_Model_init_102 : decode b_Model_init 102 = .ok (.bipush 20, 2) := by decide +kernel
theorem d_Model_init_104 : decode b_Model_init 104 = .ok (.newarray .int, 2) := by decide +kernel
theorem d_Model_init_106 : decode b_Model_init 106 = .ok (.putfield 45, 3) := by decide +kernel
theorem d_Model_init_109 : decode b_Model_init 109 = .ok (.aload_n 0, 1) := by decide +kernel
theorem d_Model_init_110 : decode b_Model_init 110 = .ok (.iload_n 1, 1) := by decide +kernel
theorem d_Model_init_111 : decode b_Model_init 111 = .ok (.iconst 1, 1) := by decide +kernel
theorem d_Model_init_112 : decode b_Model_init 112 = .ok (.if_icmp .ge 7, 3) := by decide +kernel
theorem d_Model_init_115 : decode b_Model_init 115 = .ok (.iconst 1, 1) := by decide +kernel
theorem d_Model_init_116 : decode b_Model_init 116 = .ok (.goto 15, 3) := by decide +kernel
theorem d_Model_init_119 : decode b_Model_init 119 = .ok (.iload_n 1, 1) := by decide +kernel
theorem d_Model_init_120 : decode b_Model_init 120 = .ok (.bipush 100, 2) := by decide +kernel
theorem d_Model_init_122 : decode b_Model_init 122 = .ok (.if_icmp .le 8, 3) := by decide +kernel
theorem d_Model_init_125 : decode b_Model_init 125 = .ok (.bipush 100, 2) := by decide +kernel
theorem d_Model_init_127 : decode b_Model_init 127 = .ok (.goto 4, 3) := by decide +kernel
theorem d_Model_init_130 : decode b_Model_init 130 = .ok (.iload_n 1, 1) := by decide +kernel
theorem d_Model_init_131 : decode b_Model_init 131 = .ok (.putfield 48, 3) := by decide +kernel
theorem d_Model_init_134 : decode b_Model_init 134 = .ok (.iconst 0, 1) := by decide +kernel
theorem d_Model_init_135 : decode b_Model_init 135 = .ok (.istore_n 2, 1) := by decide +kernel
theorem d_Model_init_136 : decode b_Model_init 136 = .ok (.iload_n 2, 1) := by decide +kernel
theorem d_Model_init_137 : decode b_Model_init 137 = .ok (.sipush 6020, 3) := by decide +kernel
theorem d_Model_init_140 : decode b_Model_init 140 = .ok (.if_icmp .ge 16, 3) := by decide +kernel
theorem d_Model_init_143 : decode b_Model_init 143 = .ok (.aload_n 0, 1) := by decide +kernel
theorem d_Model_init_144 : decode b_Model_init 144 = .ok (.getfield 35, 3) := by decide +kernel
theorem d_Model_init_147 : decode b_Model_init 147 = .ok (.iload_n 2, 1) := by decide +kernel
theorem d_Model_init_148 : decode b_Model_init 148 = .ok (.iconst (-1), 1) := by decide +kernel
theorem d_Model_init_149 : decode b_Model_init 149 = .ok (.iastore, 1) := by decide +kernel
theorem d_Model_init_150 : decode b_Model_init 150 = .ok (.iinc 2 1, 3) := by decide +kernel
theorem d_Model_init_153 : decode b_Model_init 153 = .ok (.goto (-17), 3) := by decide +kernel
theorem d_Model_init_156 : decode b_Model_init 156 = .ok (.return_, 1) := by decide +kernel
theorem d_Model_isIn_0 : decode b_Model_isIn 0 = .ok (.lload_n 0, 1) := by decide +kernel
theorem d_Model_isIn_1 : decode b_Model_isIn 1 = .ok (.lload_n 2, 1) := by decide +kernel
theorem d_Model_isIn_2 : decode b_Model_isIn 2 = .ok (.lcmp, 1) := by decide +kernel
theorem d_Model_isIn_3 : decode b_Model_isIn 3 = .ok (.ifCond .lt 14, 3) := by decide +kernel
theorem d_Model_isIn_6 : decode b_Model_isIn 6 = .ok (.lload_n 0, 1) := by decide +kernel
theorem d_Model_isIn_7 : decode b_Model_isIn 7 = .ok (.lload 4, 2) := by decide +kernel
theorem d_Model_isIn_9 : decode b_Model_isIn 9 = .ok (.lcmp, 1) := by decide +kernel
theorem d_Model_isIn_10 : decode b_Model_isIn 10 = .ok (.ifCond .gt 7, 3) := by decide +kernel
theorem d_Model_isIn_13 : decode b_Model_isIn 13 = .ok (.iconst 1, 1) := by decide +kernel
theorem d_Model_isIn_14 : decode b_Model_isIn 14 = .ok (.goto 4, 3) := by decide +kernel
theorem d_Model_isIn_17 : decode b_Model_isIn 17 = .ok (.iconst 0, 1) := by decide +kernel
theorem d_Model_isIn_18 : decode b_Model_isIn 18 = .ok (.ireturn, 1) := by decide +kernel
theorem d_Model_isPicture_0 : decode b_Model_isPicture 0 = .ok (.iload_n 1, 1) := by decide +kernel
theorem d_Model_isPicture_1 : decode b_Model_isPicture 1 = .ok (.i2l, 1) := by decide +kernel
theorem d_Model_isPicture_2 : decode b_Model_isPicture 2 = .ok (.lconst 1, 1) := by decide +kernel
theorem d_Model_isPicture_3 : decode b_Model_isPicture 3 = .ok (.aload_n 0, 1) := by decide +kernel
theorem d_Model_isPicture_4 : decode b_Model_isPicture 4 = .ok (.getfield 55, 3) := by decide +kernel
theorem d_Model_isPicture_7 : decode b_Model_isPicture 7 = .ok (.i2l, 1) := by decide +kernel
theorem d_Model_isPicture_8 : decode b_Model_isPicture 8 = .ok (.invokestatic 58, 3) := by decide +kernel
theorem d_Model_isPicture_11 : decode b_Model_isPicture 11 = .ok (.ireturn, 1) := by decide +kernel
theorem d_Model_isClerk_0 : decode b_Model_isClerk 0 = .ok (.iload_n 0, 1) := by decide +kernel
theorem d_Model_isClerk_1 : decode b_Model_isClerk 1 = .ok (.i2l, 1) := by decide +kernel
theorem d_Model_isClerk_2 : decode b_Model_isClerk 2 = .ok (.lconst 0, 1) := by decide +kernel
theorem d_Model_isClerk_3 : decode b_Model_isClerk 3 = .ok (.ldc2_w 62, 3) := by decide +kernel
theorem d_Model_isClerk_6 : decode b_Model_isClerk 6 = .ok (.invokestatic 58, 3) := by decide +kernel
theorem d_Model_isClerk_9 : decode b_Model_isClerk 9 = .ok (.ireturn, 1) := by decide +kernel
theorem d_Model_isTime_0 : decode b_Model_isTime 0 = .ok (.lload_n 1, 1) := by decide +kernel
theorem d_Model_isTime_1 : decode b_Model_isTime 1 = .ok (.aload_n 0, 1) := by decide +kernel
theorem d_Model_isTime_2 : decode b_Model_isTime 2 = .ok (.getfield 64, 3) := by decide +kernel
theorem d_Model_isTime_5 : decode b_Model_isTime 5 = .ok (.ldc2_w 68, 3) := by decide +kernel
theorem d_Model_isTime_8 : decode b_Model_isTime 8 = .ok (.invokestatic 58, 3) := by decide +kernel
theorem d_Model_isTime_11 : decode b_Model_isTime 11 = .ok (.ireturn, 1) := by decide +kernel
theorem d_Model_open_0 : decode b_Model_open 0 = .ok (.iconst 0, 1) := by decide +kernel
theorem d_Model_open_1 : decode b_Model_open 1 = .ok (.istore_n 1, 1) := by decide +kernel
theorem d_Model_open_2 : decode b_Model_open 2 = .ok (.iconst 1, 1) := by decide +kernel
theorem d_Model_open_3 : decode b_Model_open 3 = .ok (.istore_n 2, 1) := by decide +kernel
theorem d_Model_open_4 : decode b_Model_open 4 = .ok (.iload_n 2, 1) := by decide +kernel
theorem d_Model_open_5 : decode b_Model_open 5 = .ok (.aload_n 0, 1) := by decide +kernel
theorem d_Model_open_6 : decode b_Model_open 6 = .ok (.getfield 55, 3) := by decide +kernel
theorem d_Model_open_9 : decode b_Model_open 9 = .ok (.if_icmp .gt 26, 3) := by decide +kernel
theorem d_Model_open_12 : decode b_Model_open 12 = .ok (.aload_n 0, 1) := by decide +kernel
theorem d_Model_open_13 : decode b_Model_open 13 = .ok (.getfield 17, 3) := by decide +kernel
theorem d_Model_open_16 : decode b_Model_open 16 = .ok (.iload_n 2, 1) := by decide +kernel
theorem d_Model_open_17 : decode b_Model_open 17 = .ok (.iaload, 1) := by decide +kernel
theorem d_Model_open_18 : decode b_Model_open 18 = .ok (.ifCond .ne 9, 3) := by decide +kernel
theorem d_Model_open_21 : decode b_Model_open 21 = .ok (.iload_n 1, 1) := by decide +kernel
theorem d_Model_open_22 : decode b_Model_open 22 = .ok (.iconst 1, 1) := by decide +kernel
theorem d_Model_open_23 : decode b_Model_open 23 = .ok (.iadd, 1) := by decide +kernel
theorem d_Model_open_24 : decode b_Model_open 24 = .ok (.goto 4, 3) := by decide +kernel
theorem d_Model_open_27 : decode b_Model_open 27 = .ok (.iload_n 1, 1) := by decide +kernel
theorem d_Model_open_28 : decode b_Model_open 28 = .ok (.istore_n 1, 1) := by decide +kernel
theorem d_Model_open_29 : decode b_Model_open 29 = .ok (.iinc 2 1, 3) := by decide +kernel
theorem d_Model_open_32 : decode b_Model_open 32 = .ok (.goto (-28), 3) := by decide +kernel
theorem d_Model_open_35 : decode b_Model_open 35 = .ok (.iload_n 1, 1) := by decide +kernel
theorem d_Model_open_36 : decode b_Model_open 36 = .ok (.ireturn, 1) := by decide +kernel
theorem d_Model_picture_0 : decode b_Model_picture 0 = .ok (.aload_n 0, 1) := by decide +kernel
theorem d_Model_picture_1 : decode b_Model_picture 1 = .ok (.iconst 0, 1) := by decide +kernel
theorem d_Model_picture_2 : decode b_Model_picture 2 = .ok (.putfield 52, 3) := by decide +kernel
theorem d_Model_picture_5 : decode b_Model_picture 5 = .ok (.aload_n 0, 1) := by decide +kernel
theorem d_Model_picture_6 : decode b_Model_picture 6 = .ok (.lload_n 1, 1) := by decide +kernel
theorem d_Model_picture_7 : decode b_Model_picture 7 = .ok (.invokevirtual 70, 3) := by decide +kernel
theorem d_Model_picture_10 : decode b_Model_picture 10 = .ok (.ifCond .eq 15, 3) := by decide +kernel
theorem d_Model_picture_13 : decode b_Model_picture 13 = .ok (.iload_n 3, 1) := by decide +kernel
theorem d_Model_picture_14 : decode b_Model_picture 14 = .ok (.i2l, 1) := by decide +kernel
theorem d_Model_picture_15 : decode b_Model_picture 15 = .ok (.lconst 0, 1) := by decide +kernel
theorem d_Model_picture_16 : decode b_Model_picture 16 = .ok (.ldc2_w 74, 3) := by decide +kernel
theorem d_Model_picture_19 : decode b_Model_picture 19 = .ok (.invokestatic 58, 3) := by decide +kernel
theorem d_Model_picture_22 : decode b_Model_picture 22 = .ok (.ifCond .ne 6, 3) := by decide +kernel
theorem d_Model_picture_25 : decode b_Model_picture 25 = .ok (.bipush (-102), 2) := by decide +kernel
theorem d_Model_picture_27 : decode b_Model_picture 27 = .ok (.ireturn, 1) := by decide +kernel
theorem d_Model_picture_28 : decode b_Model_picture 28 = .ok (.aload_n 0, 1) := by decide +kernel
theorem d_Model_picture_29 : decode b_Model_picture 29 = .ok (.getfield 55, 3) := by decide +kernel
theorem d_Model_picture_32 : decode b_Model_picture 32 = .ok (.sipush 300, 3) := by decide +kernel
theorem d_Model_picture_35 : decode b_Model_picture 35 = .ok (.if_icmp .ne 6, 3) := by decide +kernel
theorem d_Model_picture_38 : decode b_Model_picture 38 = .ok (.bipush (-104), 2) := by decide +kernel
theorem d_Model_picture_40 : decode b_Model_picture 40 = .ok (.ireturn, 1) := by decide +kernel
theorem d_Model_picture_41 : decode b_Model_picture 41 = .ok (.aload_n 0, 1) := by decide +kernel
theorem d_Model_picture_42 : decode b_Model_picture 42 = .ok (.invokevirtual 76, 3) := by decide +kernel
theorem d_Model_picture_45 : decode b_Model_picture 45 = .ok (.aload_n 0, 1) := by decide +kernel
theorem d_Model_picture_46 : decode b_Model_picture 46 = .ok (.getfield 48, 3) := by decide +kernel
theorem d_Model_picture_49 : decode b_Model_picture 49 = .ok (.if_icmp .ne 5, 3) := by decide +kernel
theorem d_Model_picture_52 : decode b_Model_picture 52 = .ok (.iconst 0, 1) := by decide +kernel
theorem d_Model_picture_53 : decode b_Model_picture 53 = .ok (.ireturn, 1) := by decide +kernel
theorem d_Model_picture_54 : decode b_Model_picture 54 = .ok (.aload_n 0, 1) := by decide +kernel
theorem d_Model_picture_55 : decode b_Model_picture 55 = .ok (.dup, 1) := by decide +kernel
theorem d_Model_picture_56 : decode b_Model_picture 56 = .ok (.getfield 55, 3) := by decide +kernel
theorem d_Model_picture_59 : decode b_Model_picture 59 = .ok (.iconst 1, 1) := by decide +kernel
theorem d_Model_picture_60 : decode b_Model_picture 60 = .ok (.iadd, 1) := by decide +kernel
theorem d_Model_picture_61 : decode b_Model_picture 61 = .ok (.putfield 55, 3) := by decide +kernel
theorem d_Model_picture_64 : decode b_Model_picture 64 = .ok (.aload_n 0, 1) := by decide +kernel
theorem d_Model_picture_65 : decode b_Model_picture 65 = .ok (.getfield 7, 3) := by decide +kernel
theorem d_Model_picture_68 : decode b_Model_picture 68 = .ok (.aload_n 0, 1) := by decide +kernel
theorem d_Model_picture_69 : decode b_Model_picture 69 = .ok (.getfield 55, 3) := by decide +kernel
theorem d_Model_picture_72 : decode b_Model_picture 72 = .ok (.lload_n 1, 1) := by decide +kernel
theorem d_Model_picture_73 : decode b_Model_picture 73 = .ok (.lastore, 1) := by decide +kernel
theorem d_Model_picture_74 : decode b_Model_picture 74 = .ok (.aload_n 0, 1) := by decide +kernel
theorem d_Model_picture_75 : decode b_Model_picture 75 = .ok (.getfield 13, 3) := by decide +kernel
theorem d_Model_picture_78 : decode b_Model_picture 78 = .ok (.aload_n 0, 1) := by decide +kernel
theorem d_Model_picture_79 : decode b_Model_picture 79 = .ok (.getfield 55, 3) := by decide +kernel
theorem d_Model_picture_82 : decode b_Model_picture 82 = .ok (.iload_n 3, 1) := by decide +kernel
theorem d_Model_picture_83 : decode b_Model_picture 83 = .ok (.iastore, 1) := by decide +kernel
theorem d_Model_picture_84 : decode b_Model_picture 84 = .ok (.aload_n 0, 1) := by decide +kernel
theorem d_Model_picture_85 : decode b_Model_picture 85 = .ok (.getfield 55, 3) := by decide +kernel
theorem d_Model_picture_88 : decode b_Model_picture 88 = .ok (.ireturn, 1) := by decide +kernel
theorem d_Model_pass_0 : decode b_Model_pass 0 = .ok (.aload_n 0, 1) := by decide +kernel
theorem d_Model_pass_1 : decode b_Model_pass 1 = .ok (.lload_n 1, 1) := by decide +kernel
theorem d_Model_pass_2 : decode b_Model_pass 2 = .ok (.putfield 64, 3) := by decide +kernel
theorem d_Model_pass_5 : decode b_Model_pass 5 = .ok (.iconst 1, 1) := by decide +kernel
theorem d_Model_pass_6 : decode b_Model_pass 6 = .ok (.istore_n 3, 1) := by decide +kernel
theorem d_Model_pass_7 : decode b_Model_pass 7 = .ok (.iload_n 3, 1) := by decide +kernel
theorem d_Model_pass_8 : decode b_Model_pass 8 = .ok (.aload_n 0, 1) := by decide +kernel
theorem d_Model_pass_9 : decode b_Model_pass 9 = .ok (.getfield 55, 3) := by decide +kernel
theorem d_Model_pass_12 : decode b_Model_pass 12 = .ok (.if_icmp .gt 46, 3) := by decide +kernel
theorem d_Model_pass_15 : decode b_Model_pass 15 = .ok (.aload_n 0, 1) := by decide +kernel
theorem d_Model_pass_16 : decode b_Model_pass 16 = .ok (.getfield 17, 3) := by decide +kernel
theorem d_Model_pass_19 : decode b_Model_pass 19 = .ok (.iload_n 3, 1) := by decide +kernel
theorem d_Model_pass_20 : decode b_Model_pass 20 = .ok (.iaload, 1) := by decide +kernel
theorem d_Model_pass_21 : decode b_Model_pass 21 = .ok (.ifCond .ne 31, 3) := by decide +kernel
theorem d_Model_pass_24 : decode b_Model_pass 24 = .ok (.aload_n 0, 1) := by decide +kernel
theorem d_Model_pass_25 : decode b_Model_pass 25 = .ok (.getfield 7, 3) := by decide +kernel
theorem d_Model_pass_28 : decode b_Model_pass 28 = .ok (.iload_n 3, 1) := by decide +kernel
theorem d_Model_pass_29 : decode b_Model_pass 29 = .ok (.laload, 1) := by decide +kernel
theorem d_Model_pass_30 : decode b_Model_pass 30 = .ok (.lload_n 1, 1) := by decide +kernel
theorem d_Model_pass_31 : decode b_Model_pass 31 = .ok (.lcmp, 1) := by decide +kernel
theorem d_Model_pass_32 : decode b_Model_pass 32 = .ok (.ifCond .ge 20, 3) := by decide +kernel
theorem d_Model_pass_35 : decode b_Model_pass 35 = .ok (.aload_n 0, 1) := by decide +kernel
theorem d_Model_pass_36 : decode b_Model_pass 36 = .ok (.getfield 17, 3) := by decide +kernel
theorem d_Model_pass_39 : decode b_Model_pass 39 = .ok (.iload_n 3, 1) := by decide +kernel
theorem d_Model_pass_40 : decode b_Model_pass 40 = .ok (.iconst 4, 1) := by decide +kernel
theorem d_Model_pass_41 : decode b_Model_pass 41 = .ok (.iastore, 1) := by decide +kernel
theorem d_Model_pass_42 : decode b_Model_pass 42 = .ok (.aload_n 0, 1) := by decide +kernel
theorem d_Model_pass_43 : decode b_Model_pass 43 = .ok (.dup, 1) := by decide +kernel
theorem d_Model_pass_44 : decode b_Model_pass 44 = .ok (.getfield 80, 3) := by decide +kernel
theorem d_Model_pass_47 : decode b_Model_pass 47 = .ok (.iconst 1, 1) := by decide +kernel
theorem d_Model_pass_48 : decode b_Model_pass 48 = .ok (.iadd, 1) := by decide +kernel
theorem d_Model_pass_49 : decode b_Model_pass 49 = .ok (.putfield 80, 3) := by decide +kernel
theorem d_Model_pass_52 : decode b_Model_pass 52 = .ok (.iinc 3 1, 3) := by decide +kernel
theorem d_Model_pass_55 : decode b_Model_pass 55 = .ok (.goto (-48), 3) := by decide +kernel
theorem d_Model_pass_58 : decode b_Model_pass 58 = .ok (.return_, 1) := by decide +kernel
theorem d_Model_held_0 : decode b_Model_held 0 = .ok (.iconst 0, 1) := by decide +kernel
theorem d_Model_held_1 : decode b_Model_held 1 = .ok (.istore_n 2, 1) := by decide +kernel
theorem d_Model_held_2 : decode b_Model_held 2 = .ok (.iconst 1, 1) := by decide +kernel
theorem d_Model_held_3 : decode b_Model_held 3 = .ok (.istore_n 3, 1) := by decide +kernel
theorem d_Model_held_4 : decode b_Model_held 4 = .ok (.iload_n 3, 1) := by decide +kernel
theorem d_Model_held_5 : decode b_Model_held 5 = .ok (.aload_n 0, 1) := by decide +kernel
theorem d_Model_held_6 : decode b_Model_held 6 = .ok (.getfield 55, 3) := by decide +kernel
theorem d_Model_held_9 : decode b_Model_held 9 = .ok (.if_icmp .gt 33, 3) := by decide +kernel
theorem d_Model_held_12 : decode b_Model_held 12 = .ok (.aload_n 0, 1) := by decide +kernel
theorem d_Model_held_13 : decode b_Model_held 13 = .ok (.getfield 29, 3) := by decide +kernel
theorem d_Model_held_16 : decode b_Model_held 16 = .ok (.bipush 20, 2) := by decide +kernel
theorem d_Model_held_18 : decode b_Model_held 18 = .ok (.iload_n 3, 1) := by decide +kernel
theorem d_Model_held_19 : decode b_Model_held 19 = .ok (.imul, 1) := by decide +kernel
theorem d_Model_held_20 : decode b_Model_held 20 = .ok (.iload_n 1, 1) := by decide +kernel
theorem d_Model_held_21 : decode b_Model_held 21 = .ok (.iadd, 1) := by decide +kernel
theorem d_Model_held_22 : decode b_Model_held 22 = .ok (.bipush 20, 2) := by decide +kernel
theorem d_Model_held_24 : decode b_Model_held 24 = .ok (.isub, 1) := by decide +kernel
theorem d_Model_held_25 : decode b_Model_held 25 = .ok (.iaload, 1) := by decide +kernel
theorem d_Model_held_26 : decode b_Model_held 26 = .ok (.iconst 2, 1) := by decide +kernel
theorem d_Model_held_27 : decode b_Model_held 27 = .ok (.if_icmp .ne 7, 3) := by decide +kernel
theorem d_Model_held_30 : decode b_Model_held 30 = .ok (.iload_n 3, 1) := by decide +kernel
theorem d_Model_held_31 : decode b_Model_held 31 = .ok (.goto 4, 3) := by decide +kernel
theorem d_Model_held_34 : decode b_Model_held 34 = .ok (.iload_n 2, 1) := by decide +kernel
theorem d_Model_held_35 : decode b_Model_held 35 = .ok (.istore_n 2, 1) := by decide +kernel
theorem d_Model_held_36 : decode b_Model_held 36 = .ok (.iinc 3 1, 3) := by decide +kernel
theorem d_Model_held_39 : decode b_Model_held 39 = .ok (.goto (-35), 3) := by decide +kernel
theorem d_Model_held_42 : decode b_Model_held 42 = .ok (.iload_n 2, 1) := by decide +kernel
theorem d_Model_held_43 : decode b_Model_held 43 = .ok (.ireturn, 1) := by decide +kernel
theorem d_Model_differ_0 : decode b_Model_differ 0 = .ok (.aload_n 0, 1) := by decide +kernel
theorem d_Model_differ_1 : decode b_Model_differ 1 = .ok (.getfield 23, 3) := by decide +kernel
theorem d_Model_differ_4 : decode b_Model_differ 4 = .ok (.iload_n 1, 1) := by decide +kernel
theorem d_Model_differ_5 : decode b_Model_differ 5 = .ok (.iaload, 1) := by decide +kernel
theorem d_Model_differ_6 : decode b_Model_differ 6 = .ok (.iconst 1, 1) := by decide +kernel
theorem d_Model_differ_7 : decode b_Model_differ 7 = .ok (.if_icmp .le 28, 3) := by decide +kernel
theorem d_Model_differ_10 : decode b_Model_differ 10 = .ok (.aload_n 0, 1) := by decide +kernel
theorem d_Model_differ_11 : decode b_Model_differ 11 = .ok (.getfield 26, 3) := by decide +kernel
theorem d_Model_differ_14 : decode b_Model_differ 14 = .ok (.iconst 3, 1) := by decide +kernel
theorem d_Model_differ_15 : decode b_Model_differ 15 = .ok (.iload_n 1, 1) := by decide +kernel
theorem d_Model_differ_16 : decode b_Model_differ 16 = .ok (.imul, 1) := by decide +kernel
theorem d_Model_differ_17 : decode b_Model_differ 17 = .ok (.iaload, 1) := by decide +kernel
theorem d_Model_differ_18 : decode b_Model_differ 18 = .ok (.aload_n 0, 1) := by decide +kernel
theorem d_Model_differ_19 : decode b_Model_differ 19 = .ok (.getfield 26, 3) := by decide +kernel
theorem d_Model_differ_22 : decode b_Model_differ 22 = .ok (.iconst 3, 1) := by decide +kernel
theorem d_Model_differ_23 : decode b_Model_differ 23 = .ok (.iload_n 1, 1) := by decide +kernel
theorem d_Model_differ_24 : decode b_Model_differ 24 = .ok (.imul, 1) := by decide +kernel
theorem d_Model_differ_25 : decode b_Model_differ 25 = .ok (.iconst 1, 1) := by decide +kernel
theorem d_Model_differ_26 : decode b_Model_differ 26 = .ok (.iadd, 1) := by decide +kernel
theorem d_Model_differ_27 : decode b_Model_differ 27 = .ok (.iaload, 1) := by decide +kernel
theorem d_Model_differ_28 : decode b_Model_differ 28 = .ok (.if_icmp .eq 7, 3) := by decide +kernel
theorem d_Model_differ_31 : decode b_Model_differ 31 = .ok (.iconst 1, 1) := by decide +kernel
theorem d_Model_differ_32 : decode b_Model_differ 32 = .ok (.goto 4, 3) := by decide +kernel
theorem d_Model_differ_35 : decode b_Model_differ 35 = .ok (.iconst 0, 1) := by decide +kernel
theorem d_Model_differ_36 : decode b_Model_differ 36 = .ok (.ireturn, 1) := by decide +kernel
theorem d_Model_isTaken_0 : decode b_Model_isTaken 0 = .ok (.aload_n 0, 1) := by decide +kernel
theorem d_Model_isTaken_1 : decode b_Model_isTaken 1 = .ok (.getfield 23, 3) := by decide +kernel
theorem d_Model_isTaken_4 : decode b_Model_isTaken 4 = .ok (.iload_n 1, 1) := by decide +kernel
theorem d_Model_isTaken_5 : decode b_Model_isTaken 5 = .ok (.iaload, 1) := by decide +kernel
theorem d_Model_isTaken_6 : decode b_Model_isTaken 6 = .ok (.istore_n 2, 1) := by decide +kernel
theorem d_Model_isTaken_7 : decode b_Model_isTaken 7 = .ok (.iconst 0, 1) := by decide +kernel
theorem d_Model_isTaken_8 : decode b_Model_isTaken 8 = .ok (.istore_n 3, 1) := by decide +kernel
theorem d_Model_isTaken_9 : decode b_Model_isTaken 9 = .ok (.iload_n 3, 1) := by decide +kernel
theorem d_Model_isTaken_10 : decode b_Model_isTaken 10 = .ok (.bipush 20, 2) := by decide +kernel
theorem d_Model_isTaken_12 : decode b_Model_isTaken 12 = .ok (.if_icmp .ge 35, 3) := by decide +kernel
theorem d_Model_isTaken_15 : decode b_Model_isTaken 15 = .ok (.aload_n 0, 1) := by decide +kernel
theorem d_Model_isTaken_16 : decode b_Model_isTaken 16 = .ok (.getfield 29, 3) := by decide +kernel
theorem d_Model_isTaken_19 : decode b_Model_isTaken 19 = .ok (.bipush 20, 2) := by decide +kernel
theorem d_Model_isTaken_21 : decode b_Model_isTaken 21 = .ok (.iload_n 1, 1) := by decide +kernel
theorem d_Model_isTaken_22 : decode b_Model_isTaken 22 = .ok (.imul, 1) := by decide +kernel
theorem d_Model_isTaken_23 : decode b_Model_isTaken 23 = .ok (.iload_n 3, 1) := by decide +kernel
theorem d_Model_isTaken_24 : decode b_Model_isTaken 24 = .ok (.iadd, 1) := by decide +kernel
theorem d_Model_isTaken_25 : decode b_Model_isTaken 25 = .ok (.bipush 20, 2) := by decide +kernel
theorem d_Model_isTaken_27 : decode b_Model_isTaken 27 = .ok (.isub, 1) := by decide +kernel
theorem d_Model_isTaken_28 : decode b_Model_isTaken 28 = .ok (.iaload, 1) := by decide +kernel
theorem d_Model_isTaken_29 : decode b_Model_isTaken 29 = .ok (.iconst 2, 1) := by decide +kernel
theorem d_Model_isTaken_30 : decode b_Model_isTaken 30 = .ok (.if_icmp .ne 9, 3) := by decide +kernel
theorem d_Model_isTaken_33 : decode b_Model_isTaken 33 = .ok (.iload_n 2, 1) := by decide +kernel
theorem d_Model_isTaken_34 : decode b_Model_isTaken 34 = .ok (.iconst 1, 1) := by decide +kernel
theorem d_Model_isTaken_35 : decode b_Model_isTaken 35 = .ok (.iadd, 1) := by decide +kernel
theorem d_Model_isTaken_36 : decode b_Model_isTaken 36 = .ok (.goto 4, 3) := by decide +kernel
theorem d_Model_isTaken_39 : decode b_Model_isTaken 39 = .ok (.iload_n 2, 1) := by decide +kernel
theorem d_Model_isTaken_40 : decode b_Model_isTaken 40 = .ok (.istore_n 2, 1) := by decide +kernel
theorem d_Model_isTaken_41 : decode b_Model_isTaken 41 = .ok (.iinc 3 1, 3) := by decide +kernel
theorem d_Model_isTaken_44 : decode b_Model_isTaken 44 = .ok (.goto (-35), 3) := by decide +kernel
theorem d_Model_isTaken_47 : decode b_Model_isTaken 47 = .ok (.iload_n 2, 1) := by decide +kernel
theorem d_Model_isTaken_48 : decode b_Model_isTaken 48 = .ok (.aload_n 0, 1) := by decide +kernel
theorem d_Model_isTaken_49 : decode b_Model_isTaken 49 = .ok (.iload_n 1, 1) := by decide +kernel
theorem d_Model_isTaken_50 : decode b_Model_isTaken 50 = .ok (.invokevirtual 83, 3) := by decide +kernel
theorem d_Model_isTaken_53 : decode b_Model_isTaken 53 = .ok (.ifCond .eq 7, 3) := by decide +kernel
theorem d_Model_isTaken_56 : decode b_Model_isTaken 56 = .ok (.iconst 3, 1) := by decide +kernel
theorem d_Model_isTaken_57 : decode b_Model_isTaken 57 = .ok (.goto 4, 3) := by decide +kernel
theorem d_Model_isTaken_60 : decode b_Model_isTaken 60 = .ok (.iconst 2, 1) := by decide +kernel
theorem d_Model_isTaken_61 : decode b_Model_isTaken 61 = .ok (.if_icmp .lt 7, 3) := by decide +kernel
theorem d_Model_isTaken_64 : decode b_Model_isTaken 64 = .ok (.iconst 1, 1) := by decide +kernel
theorem d_Model_isTaken_65 : decode b_Model_isTaken 65 = .ok (.goto 4, 3) := by decide +kernel
theorem d_Model_isTaken_68 : decode b_Model_isTaken 68 = .ok (.iconst 0, 1) := by decide +kernel
theorem d_Model_isTaken_69 : decode b_Model_isTaken 69 = .ok (.ireturn, 1) := by decide +kernel
theorem d_Model_isFree_0 : decode b_Model_isFree 0 = .ok (.aload_n 0, 1) := by decide +kernel
theorem d_Model_isFree_1 : decode b_Model_isFree 1 = .ok (.getfield 17, 3) := by decide +kernel
theorem d_Model_isFree_4 : decode b_Model_isFree 4 = .ok (.iload_n 1, 1) := by decide +kernel
theorem d_Model_isFree_5 : decode b_Model_isFree 5 = .ok (.iaload, 1) := by decide +kernel
theorem d_Model_isFree_6 : decode b_Model_isFree 6 = .ok (.ifCond .ne 43, 3) := by decide +kernel
theorem d_Model_isFree_9 : decode b_Model_isFree 9 = .ok (.aload_n 0, 1) := by decide +kernel
theorem d_Model_isFree_10 : decode b_Model_isFree 10 = .ok (.iload_n 1, 1) := by decide +kernel
theorem d_Model_isFree_11 : decode b_Model_isFree 11 = .ok (.invokevirtual 87, 3) := by decide +kernel
theorem d_Model_isFree_14 : decode b_Model_isFree 14 = .ok (.ifCond .ne 35, 3) := by decide +kernel
theorem d_Model_isFree_17 : decode b_Model_isFree 17 = .ok (.aload_n 0, 1) := by decide +kernel
theorem d_Model_isFree_18 : decode b_Model_isFree 18 = .ok (.getfield 13, 3) := by decide +kernel
theorem d_Model_isFree_21 : decode b_Model_isFree 21 = .ok (.iload_n 1, 1) := by decide +kernel
theorem d_Model_isFree_22 : decode b_Model_isFree 22 = .ok (.iaload, 1) := by decide +kernel
theorem d_Model_isFree_23 : decode b_Model_isFree 23 = .ok (.aload_n 0, 1) := by decide +kernel
theorem d_Model_isFree_24 : decode b_Model_isFree 24 = .ok (.getfield 45, 3) := by decide +kernel
theorem d_Model_isFree_27 : decode b_Model_isFree 27 = .ok (.iload_n 2, 1) := by decide +kernel
theorem d_Model_isFree_28 : decode b_Model_isFree 28 = .ok (.iaload, 1) := by decide +kernel
theorem d_Model_isFree_29 : decode b_Model_isFree 29 = .ok (.if_icmp .gt 20, 3) := by decide +kernel
theorem d_Model_isFree_32 : decode b_Model_isFree 32 = .ok (.aload_n 0, 1) := by decide +kernel
theorem d_Model_isFree_33 : decode b_Model_isFree 33 = .ok (.getfield 29, 3) := by decide +kernel
theorem d_Model_isFree_36 : decode b_Model_isFree 36 = .ok (.bipush 20, 2) := by decide +kernel
theorem d_Model_isFree_38 : decode b_Model_isFree 38 = .ok (.iload_n 1, 1) := by decide +kernel
theorem d_Model_isFree_39 : decode b_Model_isFree 39 = .ok (.imul, 1) := by decide +kernel
theorem d_Model_isFree_40 : decode b_Model_isFree 40 = .ok (.iload_n 2, 1) := by decide +kernel
theorem d_Model_isFree_41 : decode b_Model_isFree 41 = .ok (.iadd, 1) := by decide +kernel
theorem d_Model_isFree_42 : decode b_Model_isFree 42 = .ok (.bipush 20, 2) := by decide +kernel
theorem d_Model_isFree_44 : decode b_Model_isFree 44 = .ok (.isub, 1) := by decide +kernel
theorem d_Model_isFree_45 : decode b_Model_isFree 45 = .ok (.iaload, 1) := by decide +kernel
theorem d_Model_isFree_46 : decode b_Model_isFree 46 = .ok (.ifCond .eq 5, 3) := by decide +kernel
theorem d_Model_isFree_49 : decode b_Model_isFree 49 = .ok (.iconst 0, 1) := by decide +kernel
theorem d_Model_isFree_50 : decode b_Model_isFree 50 = .ok (.ireturn, 1) := by decide +kernel
theorem d_Model_isFree_51 : decode b_Model_isFree 51 = .ok (.iconst 1, 1) := by decide +kernel
theorem d_Model_isFree_52 : decode b_Model_isFree 52 = .ok (.istore_n 3, 1) := by decide +kernel
theorem d_Model_isFree_53 : decode b_Model_isFree 53 = .ok (.iconst 0, 1) := by decide +kernel
theorem d_Model_isFree_54 : decode b_Model_isFree 54 = .ok (.istore 4, 2) := by decide +kernel
theorem d_Model_isFree_56 : decode b_Model_isFree 56 = .ok (.iload 4, 2) := by decide +kernel
theorem d_Model_isFree_58 : decode b_Model_isFree 58 = .ok (.bipush 20, 2) := by decide +kernel
theorem d_Model_isFree_60 : decode b_Model_isFree 60 = .ok (.if_icmp .ge 58, 3) := by decide +kernel
theorem d_Model_isFree_63 : decode b_Model_isFree 63 = .ok (.bipush 20, 2) := by decide +kernel
theorem d_Model_isFree_65 : decode b_Model_isFree 65 = .ok (.iload_n 1, 1) := by decide +kernel
theorem d_Model_isFree_66 : decode b_Model_isFree 66 = .ok (.imul, 1) := by decide +kernel
theorem d_Model_isFree_67 : decode b_Model_isFree 67 = .ok (.iload 4, 2) := by decide +kernel
theorem d_Model_isFree_69 : decode b_Model_isFree 69 = .ok (.iadd, 1) := by decide +kernel
theorem d_Model_isFree_70 : decode b_Model_isFree 70 = .ok (.bipush 20, 2) := by decide +kernel
theorem d_Model_isFree_72 : decode b_Model_isFree 72 = .ok (.isub, 1) := by decide +kernel
theorem d_Model_isFree_73 : decode b_Model_isFree 73 = .ok (.istore 5, 2) := by decide +kernel
theorem d_Model_isFree_75 : decode b_Model_isFree 75 = .ok (.iload_n 3, 1) := by decide +kernel
theorem d_Model_isFree_76 : decode b_Model_isFree 76 = .ok (.ifCond .eq 34, 3) := by decide +kernel
theorem d_Model_isFree_79 : decode b_Model_isFree 79 = .ok (.aload_n 0, 1) := by decide +kernel
theorem d_Model_isFree_80 : decode b_Model_isFree 80 = .ok (.getfield 29, 3) := by decide +kernel
theorem d_Model_isFree_83 : decode b_Model_isFree 83 = .ok (.iload 5, 2) := by decide +kernel
theorem d_Model_isFree_85 : decode b_Model_isFree 85 = .ok (.iaload, 1) := by decide +kernel
theorem d_Model_isFree_86 : decode b_Model_isFree 86 = .ok (.iconst 1, 1) := by decide +kernel
theorem d_Model_isFree_87 : decode b_Model_isFree 87 = .ok (.if_icmp .le 19, 3) := by decide +kernel
theorem d_Model_isFree_90 : decode b_Model_isFree 90 = .ok (.aload_n 0, 1) := by decide +kernel
theorem d_Model_isFree_91 : decode b_Model_isFree 91 = .ok (.getfield 32, 3) := by decide +kernel
theorem d_Model_isFree_94 : decode b_Model_isFree 94 = .ok (.iload 5, 2) := by decide +kernel
theorem d_Model_isFree_96 : decode b_Model_isFree 96 = .ok (.iaload, 1) := by decide +kernel
theorem d_Model_isFree_97 : decode b_Model_isFree 97 = .ok (.aload_n 0, 1) := by decide +kernel
theorem d_Model_isFree_98 : decode b_Model_isFree 98 = .ok (.getfield 42, 3) := by decide +kernel
theorem d_Model_isFree_101 : decode b_Model_isFree 101 = .ok (.iload_n 2, 1) := by decide +kernel
theorem d_Model_isFree_102 : decode b_Model_isFree 102 = .ok (.iaload, 1) := by decide +kernel
theorem d_Model_isFree_103 : decode b_Model_isFree 103 = .ok (.if_icmp .eq 7, 3) := by decide +kernel
theorem d_Model_isFree_106 : decode b_Model_isFree 106 = .ok (.iconst 1, 1) := by decide +kernel
theorem d_Model_isFree_107 : decode b_Model_isFree 107 = .ok (.goto 4, 3) := by decide +kernel
theorem d_Model_isFree_110 : decode b_Model_isFree 110 = .ok (.iconst 0, 1) := by decide +kernel
theorem d_Model_isFree_111 : decode b_Model_isFree 111 = .ok (.istore_n 3, 1) := by decide +kernel
theorem d_Model_isFree_112 : decode b_Model_isFree 112 = .ok (.iinc 4 1, 3) := by decide +kernel
theorem d_Model_isFree_115 : decode b_Model_isFree 115 = .ok (.goto (-59), 3) := by decide +kernel
theorem d_Model_isFree_118 : decode b_Model_isFree 118 = .ok (.iload_n 3, 1) := by decide +kernel
theorem d_Model_isFree_119 : decode b_Model_isFree 119 = .ok (.ifCond .ne 11, 3) := by decide +kernel
theorem d_Model_isFree_122 : decode b_Model_isFree 122 = .ok (.aload_n 0, 1) := by decide +kernel
theorem d_Model_isFree_123 : decode b_Model_isFree 123 = .ok (.iload_n 1, 1) := by decide +kernel
theorem d_Model_isFree_124 : decode b_Model_isFree 124 = .ok (.invokevirtual 83, 3) := by decide +kernel
theorem d_Model_isFree_127 : decode b_Model_isFree 127 = .ok (.ifCond .eq 7, 3) := by decide +kernel
theorem d_Model_isFree_130 : decode b_Model_isFree 130 = .ok (.iconst 1, 1) := by decide +kernel
theorem d_Model_isFree_131 : decode b_Model_isFree 131 = .ok (.goto 4, 3) := by decide +kernel
theorem d_Model_isFree_134 : decode b_Model_isFree 134 = .ok (.iconst 0, 1) := by decide +kernel
theorem d_Model_isFree_135 : decode b_Model_isFree 135 = .ok (.ireturn, 1) := by decide +kernel
theorem d_Model_give_0 : decode b_Model_give 0 = .ok (.aload_n 0, 1) := by decide +kernel
theorem d_Model_give_1 : decode b_Model_give 1 = .ok (.iconst 0, 1) := by decide +kernel
theorem d_Model_give_2 : decode b_Model_give 2 = .ok (.putfield 52, 3) := by decide +kernel
theorem d_Model_give_5 : decode b_Model_give 5 = .ok (.iload_n 1, 1) := by decide +kernel
theorem d_Model_give_6 : decode b_Model_give 6 = .ok (.invokestatic 90, 3) := by decide +kernel
theorem d_Model_give_9 : decode b_Model_give 9 = .ok (.ifCond .ne 6, 3) := by decide +kernel
theorem d_Model_give_12 : decode b_Model_give 12 = .ok (.bipush (-101), 2) := by decide +kernel
theorem d_Model_give_14 : decode b_Model_give 14 = .ok (.ireturn, 1) := by decide +kernel
theorem d_Model_give_15 : decode b_Model_give 15 = .ok (.aload_n 0, 1) := by decide +kernel
theorem d_Model_give_16 : decode b_Model_give 16 = .ok (.lload_n 2, 1) := by decide +kernel
theorem d_Model_give_17 : decode b_Model_give 17 = .ok (.invokevirtual 70, 3) := by decide +kernel
theorem d_Model_give_20 : decode b_Model_give 20 = .ok (.ifCond .ne 6, 3) := by decide +kernel
theorem d_Model_give_23 : decode b_Model_give 23 = .ok (.bipush (-102), 2) := by decide +kernel
theorem d_Model_give_25 : decode b_Model_give 25 = .ok (.ireturn, 1) := by decide +kernel
theorem d_Model_give_26 : decode b_Model_give 26 = .ok (.aload_n 0, 1) := by decide +kernel
theorem d_Model_give_27 : decode b_Model_give 27 = .ok (.getfield 38, 3) := by decide +kernel
theorem d_Model_give_30 : decode b_Model_give 30 = .ok (.iload_n 1, 1) := by decide +kernel
theorem d_Model_give_31 : decode b_Model_give 31 = .ok (.baload, 1) := by decide +kernel
theorem d_Model_give_32 : decode b_Model_give 32 = .ok (.ifCond .eq 11, 3) := by decide +kernel
theorem d_Model_give_35 : decode b_Model_give 35 = .ok (.aload_n 0, 1) := by decide +kernel
theorem d_Model_give_36 : decode b_Model_give 36 = .ok (.iload_n 1, 1) := by decide +kernel
theorem d_Model_give_37 : decode b_Model_give 37 = .ok (.invokevirtual 93, 3) := by decide +kernel
theorem d_Model_give_40 : decode b_Model_give 40 = .ok (.ifCond .le 6, 3) := by decide +kernel
theorem d_Model_give_43 : decode b_Model_give 43 = .ok (.bipush (-103), 2) := by decide +kernel
theorem d_Model_give_45 : decode b_Model_give 45 = .ok (.ireturn, 1) := by decide +kernel
theorem d_Model_give_46 : decode b_Model_give 46 = .ok (.aload_n 0, 1) := by decide +kernel
theorem d_Model_give_47 : decode b_Model_give 47 = .ok (.lload_n 2, 1) := by decide +kernel
theorem d_Model_give_48 : decode b_Model_give 48 = .ok (.invokevirtual 97, 3) := by decide +kernel
theorem d_Model_give_51 : decode b_Model_give 51 = .ok (.iconst 0, 1) := by decide +kernel
theorem d_Model_give_52 : decode b_Model_give 52 = .ok (.istore 4, 2) := by decide +kernel
theorem d_Model_give_54 : decode b_Model_give 54 = .ok (.aload_n 0, 1) := by decide +kernel
theorem d_Model_give_55 : decode b_Model_give 55 = .ok (.getfield 55, 3) := by decide +kernel
theorem d_Model_give_58 : decode b_Model_give 58 = .ok (.istore 5, 2) := by decide +kernel
theorem d_Model_give_60 : decode b_Model_give 60 = .ok (.iload 5, 2) := by decide +kernel
theorem d_Model_give_62 : decode b_Model_give 62 = .ok (.ifCond .le 51, 3) := by decide +kernel
theorem d_Model_give_65 : decode b_Model_give 65 = .ok (.aload_n 0, 1) := by decide +kernel
theorem d_Model_give_66 : decode b_Model_give 66 = .ok (.iload 5, 2) := by decide +kernel
theorem d_Model_give_68 : decode b_Model_give 68 = .ok (.iload_n 1, 1) := by decide +kernel
theorem d_Model_give_69 : decode b_Model_give 69 = .ok (.invokevirtual 101, 3) := by decide +kernel
theorem d_Model_give_72 : decode b_Model_give 72 = .ok (.ifCond .eq 31, 3) := by decide +kernel
theorem d_Model_give_75 : decode b_Model_give 75 = .ok (.iload 4, 2) := by decide +kernel
theorem d_Model_give_77 : decode b_Model_give 77 = .ok (.ifCond .eq 21, 3) := by decide +kernel
theorem d_Model_give_80 : decode b_Model_give 80 = .ok (.aload_n 0, 1) := by decide +kernel
theorem d_Model_give_81 : decode b_Model_give 81 = .ok (.getfield 7, 3) := by decide +kernel
theorem d_Model_give_84 : decode b_Model_give 84 = .ok (.iload 5, 2) := by decide +kernel
theorem d_Model_give_86 : decode b_Model_give 86 = .ok (.laload, 1) := by decide +kernel
theorem d_Model_give_87 : decode b_Model_give 87 = .ok (.aload_n 0, 1) := by decide +kernel
theorem d_Model_give_88 : decode b_Model_give 88 = .ok (.getfield 7, 3) := by decide +kernel
theorem d_Model_give_91 : decode b_Model_give 91 = .ok (.iload 4, 2) := by decide +kernel
theorem d_Model_give_93 : decode b_Model_give 93 = .ok (.laload, 1) := by decide +kernel
theorem d_Model_give_94 : decode b_Model_give 94 = .ok (.lcmp, 1) := by decide +kernel
theorem d_Model_give_95 : decode b_Model_give 95 = .ok (.ifCond .gt 8, 3) := by decide +kernel
theorem d_Model_give_98 : decode b_Model_give 98 = .ok (.iload 5, 2) := by decide +kernel
theorem d_Model_give_100 : decode b_Model_give 100 = .ok (.goto 5, 3) := by decide +kernel
theorem d_Model_give_103 : decode b_Model_give 103 = .ok (.iload 4, 2) := by decide +kernel
theorem d_Model_give_105 : decode b_Model_give 105 = .ok (.istore 4, 2) := by decide +kernel
theorem d_Model_give_107 : decode b_Model_give 107 = .ok (.iinc 5 (-1), 3) := by decide +kernel
theorem d_Model_give_110 : decode b_Model_give 110 = .ok (.goto (-50), 3) := by decide +kernel
theorem d_Model_give_113 : decode b_Model_give 113 = .ok (.iload 4, 2) := by decide +kernel
theorem d_Model_give_115 : decode b_Model_give 115 = .ok (.ifCond .le 40, 3) := by decide +kernel
theorem d_Model_give_118 : decode b_Model_give 118 = .ok (.aload_n 0, 1) := by decide +kernel
theorem d_Model_give_119 : decode b_Model_give 119 = .ok (.getfield 29, 3) := by decide +kernel
theorem d_Model_give_122 : decode b_Model_give 122 = .ok (.bipush 20, 2) := by decide +kernel
theorem d_Model_give_124 : decode b_Model_give 124 = .ok (.iload 4, 2) := by decide +kernel
theorem d_Model_give_126 : decode b_Model_give 126 = .ok (.imul, 1) := by decide +kernel
theorem d_Model_give_127 : decode b_Model_give 127 = .ok (.iload_n 1, 1) := by decide +kernel
theorem d_Model_give_128 : decode b_Model_give 128 = .ok (.iadd, 1) := by decide +kernel
theorem d_Model_give_129 : decode b_Model_give 129 = .ok (.bipush 20, 2) := by decide +kernel
theorem d_Model_give_131 : decode b_Model_give 131 = .ok (.isub, 1) := by decide +kernel
theorem d_Model_give_132 : decode b_Model_give 132 = .ok (.iconst 2, 1) := by decide +kernel
theorem d_Model_give_133 : decode b_Model_give 133 = .ok (.iastore, 1) := by decide +kernel
theorem d_Model_give_134 : decode b_Model_give 134 = .ok (.aload_n 0, 1) := by decide +kernel
theorem d_Model_give_135 : decode b_Model_give 135 = .ok (.getfield 32, 3) := by decide +kernel
theorem d_Model_give_138 : decode b_Model_give 138 = .ok (.bipush 20, 2) := by decide +kernel
theorem d_Model_give_140 : decode b_Model_give 140 = .ok (.iload 4, 2) := by decide +kernel
theorem d_Model_give_142 : decode b_Model_give 142 = .ok (.imul, 1) := by decide +kernel
theorem d_Model_give_143 : decode b_Model_give 143 = .ok (.iload_n 1, 1) := by decide +kernel
theorem d_Model_give_144 : decode b_Model_give 144 = .ok (.iadd, 1) := by decide +kernel
theorem d_Model_give_145 : decode b_Model_give 145 = .ok (.bipush 20, 2) := by decide +kernel
theorem d_Model_give_147 : decode b_Model_give 147 = .ok (.isub, 1) := by decide +kernel
theorem d_Model_give_148 : decode b_Model_give 148 = .ok (.aload_n 0, 1) := by decide +kernel
theorem d_Model_give_149 : decode b_Model_give 149 = .ok (.getfield 42, 3) := by decide +kernel
theorem d_Model_give_152 : decode b_Model_give 152 = .ok (.iload_n 1, 1) := by decide +kernel
theorem d_Model_give_153 : decode b_Model_give 153 = .ok (.iaload, 1) := by decide +kernel
theorem d_Model_give_154 : decode b_Model_give 154 = .ok (.iastore, 1) := by decide +kernel
theorem d_Model_give_155 : decode b_Model_give 155 = .ok (.iload 4, 2) := by decide +kernel
theorem d_Model_give_157 : decode b_Model_give 157 = .ok (.ireturn, 1) := by decide +kernel
theorem d_Model_stateOf_0 : decode b_Model_stateOf 0 = .ok (.aload_n 0, 1) := by decide +kernel
theorem d_Model_stateOf_1 : decode b_Model_stateOf 1 = .ok (.getfield 17, 3) := by decide +kernel
theorem d_Model_stateOf_4 : decode b_Model_stateOf 4 = .ok (.iload_n 1, 1) := by decide +kernel
theorem d_Model_stateOf_5 : decode b_Model_stateOf 5 = .ok (.iaload, 1) := by decide +kernel
theorem d_Model_stateOf_6 : decode b_Model_stateOf 6 = .ok (.ifCond .eq 12, 3) := by decide +kernel
theorem d_Model_stateOf_9 : decode b_Model_stateOf 9 = .ok (.aload_n 0, 1) := by decide +kernel
theorem d_Model_stateOf_10 : decode b_Model_stateOf 10 = .ok (.getfield 17, 3) := by decide +kernel
theorem d_Model_stateOf_13 : decode b_Model_stateOf 13 = .ok (.iload_n 1, 1) := by decide +kernel
theorem d_Model_stateOf_14 : decode b_Model_stateOf 14 = .ok (.iaload, 1) := by decide +kernel
theorem d_Model_stateOf_15 : decode b_Model_stateOf 15 = .ok (.goto 16, 3) := by decide +kernel
theorem d_Model_stateOf_18 : decode b_Model_stateOf 18 = .ok (.aload_n 0, 1) := by decide +kernel
theorem d_Model_stateOf_19 : decode b_Model_stateOf 19 = .ok (.iload_n 1, 1) := by decide +kernel
theorem d_Model_stateOf_20 : decode b_Model_stateOf 20 = .ok (.invokevirtual 87, 3) := by decide +kernel
theorem d_Model_stateOf_23 : decode b_Model_stateOf 23 = .ok (.ifCond .eq 7, 3) := by decide +kernel
theorem d_Model_stateOf_26 : decode b_Model_stateOf 26 = .ok (.iconst 1, 1) := by decide +kernel
theorem d_Model_stateOf_27 : decode b_Model_stateOf 27 = .ok (.goto 4, 3) := by decide +kernel
theorem d_Model_stateOf_30 : decode b_Model_stateOf 30 = .ok (.iconst 0, 1) := by decide +kernel
theorem d_Model_stateOf_31 : decode b_Model_stateOf 31 = .ok (.ireturn, 1) := by decide +kernel
theorem d_Model_take_0 : decode b_Model_take 0 = .ok (.aload_n 0, 1) := by decide +kernel
theorem d_Model_take_1 : decode b_Model_take 1 = .ok (.getfield 23, 3) := by decide +kernel
theorem d_Model_take_4 : decode b_Model_take 4 = .ok (.iload_n 1, 1) := by decide +kernel
theorem d_Model_take_5 : decode b_Model_take 5 = .ok (.iaload, 1) := by decide +kernel
theorem d_Model_take_6 : decode b_Model_take 6 = .ok (.istore_n 3, 1) := by decide +kernel
theorem d_Model_take_7 : decode b_Model_take 7 = .ok (.iconst 0, 1) := by decide +kernel
theorem d_Model_take_8 : decode b_Model_take 8 = .ok (.istore 4, 2) := by decide +kernel
theorem d_Model_take_10 : decode b_Model_take 10 = .ok (.iconst 0, 1) := by decide +kernel
theorem d_Model_take_11 : decode b_Model_take 11 = .ok (.istore 5, 2) := by decide +kernel
theorem d_Model_take_13 : decode b_Model_take 13 = .ok (.iload 5, 2) := by decide +kernel
theorem d_Model_take_15 : decode b_Model_take 15 = .ok (.iload_n 3, 1) := by decide +kernel
theorem d_Model_take_16 : decode b_Model_take 16 = .ok (.if_icmp .ge 36, 3) := by decide +kernel
theorem d_Model_take_19 : decode b_Model_take 19 = .ok (.iload 4, 2) := by decide +kernel
theorem d_Model_take_21 : decode b_Model_take 21 = .ok (.ifCond .ne 18, 3) := by decide +kernel
theorem d_Model_take_24 : decode b_Model_take 24 = .ok (.aload_n 0, 1) := by decide +kernel
theorem d_Model_take_25 : decode b_Model_take 25 = .ok (.getfield 26, 3) := by decide +kernel
theorem d_Model_take_28 : decode b_Model_take 28 = .ok (.iconst 3, 1) := by decide +kernel
theorem d_Model_take_29 : decode b_Model_take 29 = .ok (.iload_n 1, 1) := by decide +kernel
theorem d_Model_take_30 : decode b_Model_take 30 = .ok (.imul, 1) := by decide +kernel
theorem d_Model_take_31 : decode b_Model_take 31 = .ok (.iload 5, 2) := by decide +kernel
theorem d_Model_take_33 : decode b_Model_take 33 = .ok (.iadd, 1) := by decide +kernel
theorem d_Model_take_34 : decode b_Model_take 34 = .ok (.iaload, 1) := by decide +kernel
theorem d_Model_take_35 : decode b_Model_take 35 = .ok (.iload_n 2, 1) := by decide +kernel
theorem d_Model_take_36 : decode b_Model_take 36 = .ok (.if_icmp .ne 7, 3) := by decide +kernel
theorem d_Model_take_39 : decode b_Model_take 39 = .ok (.iconst 1, 1) := by decide +kernel
theorem d_Model_take_40 : decode b_Model_take 40 = .ok (.goto 4, 3) := by decide +kernel
theorem d_Model_take_43 : decode b_Model_take 43 = .ok (.iconst 0, 1) := by decide +kernel
theorem d_Model_take_44 : decode b_Model_take 44 = .ok (.istore 4, 2) := by decide +kernel
theorem d_Model_take_46 : decode b_Model_take 46 = .ok (.iinc 5 1, 3) := by decide +kernel
theorem d_Model_take_49 : decode b_Model_take 49 = .ok (.goto (-36), 3) := by decide +kernel
theorem d_Model_take_52 : decode b_Model_take 52 = .ok (.aload_n 0, 1) := by decide +kernel
theorem d_Model_take_53 : decode b_Model_take 53 = .ok (.getfield 26, 3) := by decide +kernel
theorem d_Model_take_56 : decode b_Model_take 56 = .ok (.iconst 3, 1) := by decide +kernel
theorem d_Model_take_57 : decode b_Model_take 57 = .ok (.iload_n 1, 1) := by decide +kernel
theorem d_Model_take_58 : decode b_Model_take 58 = .ok (.imul, 1) := by decide +kernel
theorem d_Model_take_59 : decode b_Model_take 59 = .ok (.iload_n 3, 1) := by decide +kernel
theorem d_Model_take_60 : decode b_Model_take 60 = .ok (.iadd, 1) := by decide +kernel
theorem d_Model_take_61 : decode b_Model_take 61 = .ok (.iload_n 2, 1) := by decide +kernel
theorem d_Model_take_62 : decode b_Model_take 62 = .ok (.iastore, 1) := by decide +kernel
theorem d_Model_take_63 : decode b_Model_take 63 = .ok (.aload_n 0, 1) := by decide +kernel
theorem d_Model_take_64 : decode b_Model_take 64 = .ok (.getfield 23, 3) := by decide +kernel
theorem d_Model_take_67 : decode b_Model_take 67 = .ok (.iload_n 1, 1) := by decide +kernel
theorem d_Model_take_68 : decode b_Model_take 68 = .ok (.dup2, 1) := by decide +kernel
theorem d_Model_take_69 : decode b_Model_take 69 = .ok (.iaload, 1) := by decide +kernel
theorem d_Model_take_70 : decode b_Model_take 70 = .ok (.iconst 1, 1) := by decide +kernel
theorem d_Model_take_71 : decode b_Model_take 71 = .ok (.iadd, 1) := by decide +kernel
theorem d_Model_take_72 : decode b_Model_take 72 = .ok (.iastore, 1) := by decide +kernel
theorem d_Model_take_73 : decode b_Model_take 73 = .ok (.iload 4, 2) := by decide +kernel
theorem d_Model_take_75 : decode b_Model_take 75 = .ok (.ifCond .eq 28, 3) := by decide +kernel
theorem d_Model_take_78 : decode b_Model_take 78 = .ok (.aload_n 0, 1) := by decide +kernel
theorem d_Model_take_79 : decode b_Model_take 79 = .ok (.getfield 17, 3) := by decide +kernel
theorem d_Model_take_82 : decode b_Model_take 82 = .ok (.iload_n 1, 1) := by decide +kernel
theorem d_Model_take_83 : decode b_Model_take 83 = .ok (.iload_n 2, 1) := by decide +kernel
theorem d_Model_take_84 : decode b_Model_take 84 = .ok (.ifCond .le 7, 3) := by decide +kernel
theorem d_Model_take_87 : decode b_Model_take 87 = .ok (.iconst 2, 1) := by decide +kernel
theorem d_Model_take_88 : decode b_Model_take 88 = .ok (.goto 4, 3) := by decide +kernel
theorem d_Model_take_91 : decode b_Model_take 91 = .ok (.iconst 3, 1) := by decide +kernel
theorem d_Model_take_92 : decode b_Model_take 92 = .ok (.iastore, 1) := by decide +kernel
theorem d_Model_take_93 : decode b_Model_take 93 = .ok (.aload_n 0, 1) := by decide +kernel
theorem d_Model_take_94 : decode b_Model_take 94 = .ok (.getfield 20, 3) := by decide +kernel
theorem d_Model_take_97 : decode b_Model_take 97 = .ok (.iload_n 1, 1) := by decide +kernel
theorem d_Model_take_98 : decode b_Model_take 98 = .ok (.iload_n 2, 1) := by decide +kernel
theorem d_Model_take_99 : decode b_Model_take 99 = .ok (.iastore, 1) := by decide +kernel
theorem d_Model_take_100 : decode b_Model_take 100 = .ok (.goto 15, 3) := by decide +kernel
theorem d_Model_take_103 : decode b_Model_take 103 = .ok (.iload_n 3, 1) := by decide +kernel
theorem d_Model_take_104 : decode b_Model_take 104 = .ok (.iconst 2, 1) := by decide +kernel
theorem d_Model_take_105 : decode b_Model_take 105 = .ok (.if_icmp .ne 10, 3) := by decide +kernel
theorem d_Model_take_108 : decode b_Model_take 108 = .ok (.aload_n 0, 1) := by decide +kernel
theorem d_Model_take_109 : decode b_Model_take 109 = .ok (.getfield 17, 3) := by decide +kernel
theorem d_Model_take_112 : decode b_Model_take 112 = .ok (.iload_n 1, 1) := by decide +kernel
theorem d_Model_take_113 : decode b_Model_take 113 = .ok (.iconst 3, 1) := by decide +kernel
theorem d_Model_take_114 : decode b_Model_take 114 = .ok (.iastore, 1) := by decide +kernel
theorem d_Model_take_115 : decode b_Model_take 115 = .ok (.return_, 1) := by decide +kernel
theorem d_Model_answer_0 : decode b_Model_answer 0 = .ok (.aload_n 0, 1) := by decide +kernel
theorem d_Model_answer_1 : decode b_Model_answer 1 = .ok (.iconst 0, 1) := by decide +kernel
theorem d_Model_answer_2 : decode b_Model_answer 2 = .ok (.putfield 52, 3) := by decide +kernel
theorem d_Model_answer_5 : decode b_Model_answer 5 = .ok (.iload_n 1, 1) := by decide +kernel
theorem d_Model_answer_6 : decode b_Model_answer 6 = .ok (.invokestatic 90, 3) := by decide +kernel
theorem d_Model_answer_9 : decode b_Model_answer 9 = .ok (.ifCond .eq 11, 3) := by decide +kernel
theorem d_Model_answer_12 : decode b_Model_answer 12 = .ok (.aload_n 0, 1) := by decide +kernel
theorem d_Model_answer_13 : decode b_Model_answer 13 = .ok (.iload_n 2, 1) := by decide +kernel
theorem d_Model_answer_14 : decode b_Model_answer 14 = .ok (.invokevirtual 105, 3) := by decide +kernel
theorem d_Model_answer_17 : decode b_Model_answer 17 = .ok (.ifCond .ne 6, 3) := by decide +kernel
theorem d_Model_answer_20 : decode b_Model_answer 20 = .ok (.bipush (-101), 2) := by decide +kernel
theorem d_Model_answer_22 : decode b_Model_answer 22 = .ok (.ireturn, 1) := by decide +kernel
theorem d_Model_answer_23 : decode b_Model_answer 23 = .ok (.iload_n 3, 1) := by decide +kernel
theorem d_Model_answer_24 : decode b_Model_answer 24 = .ok (.i2l, 1) := by decide +kernel
theorem d_Model_answer_25 : decode b_Model_answer 25 = .ok (.lconst 0, 1) := by decide +kernel
theorem d_Model_answer_26 : decode b_Model_answer 26 = .ok (.ldc2_w 108, 3) := by decide +kernel
theorem d_Model_answer_29 : decode b_Model_answer 29 = .ok (.invokestatic 58, 3) := by decide +kernel
theorem d_Model_answer_32 : decode b_Model_answer 32 = .ok (.ifCond .eq 12, 3) := by decide +kernel
theorem d_Model_answer_35 : decode b_Model_answer 35 = .ok (.aload_n 0, 1) := by decide +kernel
theorem d_Model_answer_36 : decode b_Model_answer 36 = .ok (.lload 4, 2) := by decide +kernel
theorem d_Model_answer_38 : decode b_Model_answer 38 = .ok (.invokevirtual 70, 3) := by decide +kernel
theorem d_Model_answer_41 : decode b_Model_answer 41 = .ok (.ifCond .ne 6, 3) := by decide +kernel
theorem d_Model_answer_44 : decode b_Model_answer 44 = .ok (.bipush (-102), 2) := by decide +kernel
theorem d_Model_answer_46 : decode b_Model_answer 46 = .ok (.ireturn, 1) := by decide +kernel
theorem d_Model_answer_47 : decode b_Model_answer 47 = .ok (.aload_n 0, 1) := by decide +kernel
theorem d_Model_answer_48 : decode b_Model_answer 48 = .ok (.iload_n 1, 1) := by decide +kernel
theorem d_Model_answer_49 : decode b_Model_answer 49 = .ok (.invokevirtual 93, 3) := by decide +kernel
theorem d_Model_answer_52 : decode b_Model_answer 52 = .ok (.iload_n 2, 1) := by decide +kernel
theorem d_Model_answer_53 : decode b_Model_answer 53 = .ok (.if_icmp .eq 6, 3) := by decide +kernel
theorem d_Model_answer_56 : decode b_Model_answer 56 = .ok (.bipush (-103), 2) := by decide +kernel
theorem d_Model_answer_58 : decode b_Model_answer 58 = .ok (.ireturn, 1) := by decide +kernel
theorem d_Model_answer_59 : decode b_Model_answer 59 = .ok (.aload_n 0, 1) := by decide +kernel
theorem d_Model_answer_60 : decode b_Model_answer 60 = .ok (.lload 4, 2) := by decide +kernel
theorem d_Model_answer_62 : decode b_Model_answer 62 = .ok (.invokevirtual 97, 3) := by decide +kernel
theorem d_Model_answer_65 : decode b_Model_answer 65 = .ok (.aload_n 0, 1) := by decide +kernel
theorem d_Model_answer_66 : decode b_Model_answer 66 = .ok (.getfield 29, 3) := by decide +kernel
theorem d_Model_answer_69 : decode b_Model_answer 69 = .ok (.bipush 20, 2) := by decide +kernel
theorem d_Model_answer_71 : decode b_Model_answer 71 = .ok (.iload_n 2, 1) := by decide +kernel
theorem d_Model_answer_72 : decode b_Model_answer 72 = .ok (.imul, 1) := by decide +kernel
theorem d_Model_answer_73 : decode b_Model_answer 73 = .ok (.iload_n 1, 1) := by decide +kernel
theorem d_Model_answer_74 : decode b_Model_answer 74 = .ok (.iadd, 1) := by decide +kernel
theorem d_Model_answer_75 : decode b_Model_answer 75 = .ok (.bipush 20, 2) := by decide +kernel
theorem d_Model_answer_77 : decode b_Model_answer 77 = .ok (.isub, 1) := by decide +kernel
theorem d_Model_answer_78 : decode b_Model_answer 78 = .ok (.iconst 3, 1) := by decide +kernel
theorem d_Model_answer_79 : decode b_Model_answer 79 = .ok (.iastore, 1) := by decide +kernel
theorem d_Model_answer_80 : decode b_Model_answer 80 = .ok (.aload_n 0, 1) := by decide +kernel
theorem d_Model_answer_81 : decode b_Model_answer 81 = .ok (.getfield 35, 3) := by decide +kernel
theorem d_Model_answer_84 : decode b_Model_answer 84 = .ok (.bipush 20, 2) := by decide +kernel
theorem d_Model_answer_86 : decode b_Model_answer 86 = .ok (.iload_n 2, 1) := by decide +kernel
theorem d_Model_answer_87 : decode b_Model_answer 87 = .ok (.imul, 1) := by decide +kernel
theorem d_Model_answer_88 : decode b_Model_answer 88 = .ok (.iload_n 1, 1) := by decide +kernel
theorem d_Model_answer_89 : decode b_Model_answer 89 = .ok (.iadd, 1) := by decide +kernel
theorem d_Model_answer_90 : decode b_Model_answer 90 = .ok (.bipush 20, 2) := by decide +kernel
theorem d_Model_answer_92 : decode b_Model_answer 92 = .ok (.isub, 1) := by decide +kernel
theorem d_Model_answer_93 : decode b_Model_answer 93 = .ok (.iload_n 3, 1) := by decide +kernel
theorem d_Model_answer_94 : decode b_Model_answer 94 = .ok (.iastore, 1) := by decide +kernel
theorem d_Model_answer_95 : decode b_Model_answer 95 = .ok (.aload_n 0, 1) := by decide +kernel
theorem d_Model_answer_96 : decode b_Model_answer 96 = .ok (.getfield 17, 3) := by decide +kernel
theorem d_Model_answer_99 : decode b_Model_answer 99 = .ok (.iload_n 2, 1) := by decide +kernel
theorem d_Model_answer_100 : decode b_Model_answer 100 = .ok (.iaload, 1) := by decide +kernel
theorem d_Model_answer_101 : decode b_Model_answer 101 = .ok (.ifCond .ne 9, 3) := by decide +kernel
theorem d_Model_answer_104 : decode b_Model_answer 104 = .ok (.aload_n 0, 1) := by decide +kernel
theorem d_Model_answer_105 : decode b_Model_answer 105 = .ok (.iload_n 2, 1) := by decide +kernel
theorem d_Model_answer_106 : decode b_Model_answer 106 = .ok (.iload_n 3, 1) := by decide +kernel
theorem d_Model_answer_107 : decode b_Model_answer 107 = .ok (.invokevirtual 110, 3) := by decide +kernel
theorem d_Model_answer_110 : decode b_Model_answer 110 = .ok (.aload_n 0, 1) := by decide +kernel
theorem d_Model_answer_111 : decode b_Model_answer 111 = .ok (.iload_n 2, 1) := by decide +kernel
theorem d_Model_answer_112 : decode b_Model_answer 112 = .ok (.invokevirtual 114, 3) := by decide +kernel
theorem d_Model_answer_115 : decode b_Model_answer 115 = .ok (.ireturn, 1) := by decide +kernel
theorem d_Model_office_0 : decode b_Model_office 0 = .ok (.aload_n 0, 1) := by decide +kernel
theorem d_Model_office_1 : decode b_Model_office 1 = .ok (.iconst 0, 1) := by decide +kernel
theorem d_Model_office_2 : decode b_Model_office 2 = .ok (.putfield 52, 3) := by decide +kernel
theorem d_Model_office_5 : decode b_Model_office 5 = .ok (.iload_n 1, 1) := by decide +kernel
theorem d_Model_office_6 : decode b_Model_office 6 = .ok (.invokestatic 90, 3) := by decide +kernel
theorem d_Model_office_9 : decode b_Model_office 9 = .ok (.ifCond .ne 6, 3) := by decide +kernel
theorem d_Model_office_12 : decode b_Model_office 12 = .ok (.bipush (-101), 2) := by decide +kernel
theorem d_Model_office_14 : decode b_Model_office 14 = .ok (.ireturn, 1) := by decide +kernel
theorem d_Model_office_15 : decode b_Model_office 15 = .ok (.iload_n 2, 1) := by decide +kernel
theorem d_Model_office_16 : decode b_Model_office 16 = .ok (.i2l, 1) := by decide +kernel
theorem d_Model_office_17 : decode b_Model_office 17 = .ok (.lconst 0, 1) := by decide +kernel
theorem d_Model_office_18 : decode b_Model_office 18 = .ok (.ldc2_w 117, 3) := by decide +kernel
theorem d_Model_office_21 : decode b_Model_office 21 = .ok (.invokestatic 58, 3) := by decide +kernel
theorem d_Model_office_24 : decode b_Model_office 24 = .ok (.ifCond .eq 15, 3) := by decide +kernel
theorem d_Model_office_27 : decode b_Model_office 27 = .ok (.iload_n 3, 1) := by decide +kernel
theorem d_Model_office_28 : decode b_Model_office 28 = .ok (.i2l, 1) := by decide +kernel
theorem d_Model_office_29 : decode b_Model_office 29 = .ok (.lconst 0, 1) := by decide +kernel
theorem d_Model_office_30 : decode b_Model_office 30 = .ok (.ldc2_w 74, 3) := by decide +kernel
theorem d_Model_office_33 : decode b_Model_office 33 = .ok (.invokestatic 58, 3) := by decide +kernel
theorem d_Model_office_36 : decode b_Model_office 36 = .ok (.ifCond .ne 6, 3) := by decide +kernel
theorem d_Model_office_39 : decode b_Model_office 39 = .ok (.bipush (-102), 2) := by decide +kernel
theorem d_Model_office_41 : decode b_Model_office 41 = .ok (.ireturn, 1) := by decide +kernel
theorem d_Model_office_42 : decode b_Model_office 42 = .ok (.aload_n 0, 1) := by decide +kernel
theorem d_Model_office_43 : decode b_Model_office 43 = .ok (.getfield 38, 3) := by decide +kernel
theorem d_Model_office_46 : decode b_Model_office 46 = .ok (.iload_n 1, 1) := by decide +kernel
theorem d_Model_office_47 : decode b_Model_office 47 = .ok (.baload, 1) := by decide +kernel
theorem d_Model_office_48 : decode b_Model_office 48 = .ok (.ifCond .eq 27, 3) := by decide +kernel
theorem d_Model_office_51 : decode b_Model_office 51 = .ok (.aload_n 0, 1) := by decide +kernel
theorem d_Model_office_52 : decode b_Model_office 52 = .ok (.getfield 42, 3) := by decide +kernel
theorem d_Model_office_55 : decode b_Model_office 55 = .ok (.iload_n 1, 1) := by decide +kernel
theorem d_Model_office_56 : decode b_Model_office 56 = .ok (.iaload, 1) := by decide +kernel
theorem d_Model_office_57 : decode b_Model_office 57 = .ok (.iload_n 2, 1) := by decide +kernel
theorem d_Model_office_58 : decode b_Model_office 58 = .ok (.if_icmp .ne 17, 3) := by decide +kernel
theorem d_Model_office_61 : decode b_Model_office 61 = .ok (.aload_n 0, 1) := by decide +kernel
theorem d_Model_office_62 : decode b_Model_office 62 = .ok (.getfield 45, 3) := by decide +kernel
theorem d_Model_office_65 : decode b_Model_office 65 = .ok (.iload_n 1, 1) := by decide +kernel
theorem d_Model_office_66 : decode b_Model_office 66 = .ok (.iaload, 1) := by decide +kernel
theorem d_Model_office_67 : decode b_Model_office 67 = .ok (.iload_n 3, 1) := by decide +kernel
theorem d_Model_office_68 : decode b_Model_office 68 = .ok (.if_icmp .ne 7, 3) := by decide +kernel
theorem d_Model_office_71 : decode b_Model_office 71 = .ok (.iconst 1, 1) := by decide +kernel
theorem d_Model_office_72 : decode b_Model_office 72 = .ok (.goto 4, 3) := by decide +kernel
theorem d_Model_office_75 : decode b_Model_office 75 = .ok (.iconst 0, 1) := by decide +kernel
theorem d_Model_office_76 : decode b_Model_office 76 = .ok (.istore 4, 2) := by decide +kernel
theorem d_Model_office_78 : decode b_Model_office 78 = .ok (.aload_n 0, 1) := by decide +kernel
theorem d_Model_office_79 : decode b_Model_office 79 = .ok (.getfield 38, 3) := by decide +kernel
theorem d_Model_office_82 : decode b_Model_office 82 = .ok (.iload_n 1, 1) := by decide +kernel
theorem d_Model_office_83 : decode b_Model_office 83 = .ok (.iconst 1, 1) := by decide +kernel
theorem d_Model_office_84 : decode b_Model_office 84 = .ok (.bastore, 1) := by decide +kernel
theorem d_Model_office_85 : decode b_Model_office 85 = .ok (.aload_n 0, 1) := by decide +kernel
theorem d_Model_office_86 : decode b_Model_office 86 = .ok (.getfield 42, 3) := by decide +kernel
theorem d_Model_office_89 : decode b_Model_office 89 = .ok (.iload_n 1, 1) := by decide +kernel
theorem d_Model_office_90 : decode b_Model_office 90 = .ok (.iload_n 2, 1) := by decide +kernel
theorem d_Model_office_91 : decode b_Model_office 91 = .ok (.iastore, 1) := by decide +kernel
theorem d_Model_office_92 : decode b_Model_office 92 = .ok (.aload_n 0, 1) := by decide +kernel
theorem d_Model_office_93 : decode b_Model_office 93 = .ok (.getfield 45, 3) := by decide +kernel
theorem d_Model_office_96 : decode b_Model_office 96 = .ok (.iload_n 1, 1) := by decide +kernel
theorem d_Model_office_97 : decode b_Model_office 97 = .ok (.iload_n 3, 1) := by decide +kernel
theorem d_Model_office_98 : decode b_Model_office 98 = .ok (.iastore, 1) := by decide +kernel
theorem d_Model_office_99 : decode b_Model_office 99 = .ok (.iload 4, 2) := by decide +kernel
theorem d_Model_office_101 : decode b_Model_office 101 = .ok (.ifCond .eq 7, 3) := by decide +kernel
theorem d_Model_office_104 : decode b_Model_office 104 = .ok (.iconst 0, 1) := by decide +kernel
theorem d_Model_office_105 : decode b_Model_office 105 = .ok (.goto 4, 3) := by decide +kernel
theorem d_Model_office_108 : decode b_Model_office 108 = .ok (.iconst 1, 1) := by decide +kernel
theorem d_Model_office_109 : decode b_Model_office 109 = .ok (.ireturn, 1) := by decide +kernel
theorem d_Model_leave_0 : decode b_Model_leave 0 = .ok (.aload_n 0, 1) := by decide +kernel
theorem d_Model_leave_1 : decode b_Model_leave 1 = .ok (.iconst 0, 1) := by decide +kernel
theorem d_Model_leave_2 : decode b_Model_leave 2 = .ok (.putfield 52, 3) := by decide +kernel
theorem d_Model_leave_5 : decode b_Model_leave 5 = .ok (.iload_n 1, 1) := by decide +kernel
theorem d_Model_leave_6 : decode b_Model_leave 6 = .ok (.invokestatic 90, 3) := by decide +kernel
theorem d_Model_leave_9 : decode b_Model_leave 9 = .ok (.ifCond .ne 6, 3) := by decide +kernel
theorem d_Model_leave_12 : decode b_Model_leave 12 = .ok (.bipush (-101), 2) := by decide +kernel
theorem d_Model_leave_14 : decode b_Model_leave 14 = .ok (.ireturn, 1) := by decide +kernel
theorem d_Model_leave_15 : decode b_Model_leave 15 = .ok (.aload_n 0, 1) := by decide +kernel
theorem d_Model_leave_16 : decode b_Model_leave 16 = .ok (.getfield 38, 3) := by decide +kernel
theorem d_Model_leave_19 : decode b_Model_leave 19 = .ok (.iload_n 1, 1) := by decide +kernel
theorem d_Model_leave_20 : decode b_Model_leave 20 = .ok (.baload, 1) := by decide +kernel
theorem d_Model_leave_21 : decode b_Model_leave 21 = .ok (.ifCond .ne 6, 3) := by decide +kernel
theorem d_Model_leave_24 : decode b_Model_leave 24 = .ok (.bipush (-103), 2) := by decide +kernel
theorem d_Model_leave_26 : decode b_Model_leave 26 = .ok (.ireturn, 1) := by decide +kernel
theorem d_Model_leave_27 : decode b_Model_leave 27 = .ok (.aload_n 0, 1) := by decide +kernel
theorem d_Model_leave_28 : decode b_Model_leave 28 = .ok (.getfield 38, 3) := by decide +kernel
theorem d_Model_leave_31 : decode b_Model_leave 31 = .ok (.iload_n 1, 1) := by decide +kernel
theorem d_Model_leave_32 : decode b_Model_leave 32 = .ok (.iconst 0, 1) := by decide +kernel
theorem d_Model_leave_33 : decode b_Model_leave 33 = .ok (.bastore, 1) := by decide +kernel
theorem d_Model_leave_34 : decode b_Model_leave 34 = .ok (.aload_n 0, 1) := by decide +kernel
theorem d_Model_leave_35 : decode b_Model_leave 35 = .ok (.iload_n 1, 1) := by decide +kernel
theorem d_Model_leave_36 : decode b_Model_leave 36 = .ok (.invokevirtual 93, 3) := by decide +kernel
theorem d_Model_leave_39 : decode b_Model_leave 39 = .ok (.istore_n 2, 1) := by decide +kernel
theorem d_Model_leave_40 : decode b_Model_leave 40 = .ok (.iload_n 2, 1) := by decide +kernel
theorem d_Model_leave_41 : decode b_Model_leave 41 = .ok (.ifCond .le 18, 3) := by decide +kernel
theorem d_Model_leave_44 : decode b_Model_leave 44 = .ok (.aload_n 0, 1) := by decide +kernel
theorem d_Model_leave_45 : decode b_Model_leave 45 = .ok (.getfield 29, 3) := by decide +kernel
theorem d_Model_leave_48 : decode b_Model_leave 48 = .ok (.bipush 20, 2) := by decide +kernel
theorem d_Model_leave_50 : decode b_Model_leave 50 = .ok (.iload_n 2, 1) := by decide +kernel
theorem d_Model_leave_51 : decode b_Model_leave 51 = .ok (.imul, 1) := by decide +kernel
theorem d_Model_leave_52 : decode b_Model_leave 52 = .ok (.iload_n 1, 1) := by decide +kernel
theorem d_Model_leave_53 : decode b_Model_leave 53 = .ok (.iadd, 1) := by decide +kernel
theorem d_Model_leave_54 : decode b_Model_leave 54 = .ok (.bipush 20, 2) := by decide +kernel
theorem d_Model_leave_56 : decode b_Model_leave 56 = .ok (.isub, 1) := by decide +kernel
theorem d_Model_leave_57 : decode b_Model_leave 57 = .ok (.iconst 1, 1) := by decide +kernel
theorem d_Model_leave_58 : decode b_Model_leave 58 = .ok (.iastore, 1) := by decide +kernel
theorem d_Model_leave_59 : decode b_Model_leave 59 = .ok (.iload_n 2, 1) := by decide +kernel
theorem d_Model_leave_60 : decode b_Model_leave 60 = .ok (.ifCond .le 7, 3) := by decide +kernel
theorem d_Model_leave_63 : decode b_Model_leave 63 = .ok (.iconst 1, 1) := by decide +kernel
theorem d_Model_leave_64 : decode b_Model_leave 64 = .ok (.goto 4, 3) := by decide +kernel
theorem d_Model_leave_67 : decode b_Model_leave 67 = .ok (.iconst 0, 1) := by decide +kernel
theorem d_Model_leave_68 : decode b_Model_leave 68 = .ok (.ireturn, 1) := by decide +kernel
theorem d_Model_tick_0 : decode b_Model_tick 0 = .ok (.aload_n 0, 1) := by decide +kernel
theorem d_Model_tick_1 : decode b_Model_tick 1 = .ok (.iconst 0, 1) := by decide +kernel
theorem d_Model_tick_2 : decode b_Model_tick 2 = .ok (.putfield 52, 3) := by decide +kernel
theorem d_Model_tick_5 : decode b_Model_tick 5 = .ok (.aload_n 0, 1) := by decide +kernel
theorem d_Model_tick_6 : decode b_Model_tick 6 = .ok (.lload_n 1, 1) := by decide +kernel
theorem d_Model_tick_7 : decode b_Model_tick 7 = .ok (.invokevirtual 70, 3) := by decide +kernel
theorem d_Model_tick_10 : decode b_Model_tick 10 = .ok (.ifCond .ne 6, 3) := by decide +kernel
theorem d_Model_tick_13 : decode b_Model_tick 13 = .ok (.bipush (-102), 2) := by decide +kernel
theorem d_Model_tick_15 : decode b_Model_tick 15 = .ok (.ireturn, 1) := by decide +kernel
theorem d_Model_tick_16 : decode b_Model_tick 16 = .ok (.aload_n 0, 1) := by decide +kernel
theorem d_Model_tick_17 : decode b_Model_tick 17 = .ok (.lload_n 1, 1) := by decide +kernel
theorem d_Model_tick_18 : decode b_Model_tick 18 = .ok (.invokevirtual 97, 3) := by decide +kernel
theorem d_Model_tick_21 : decode b_Model_tick 21 = .ok (.aload_n 0, 1) := by decide +kernel
theorem d_Model_tick_22 : decode b_Model_tick 22 = .ok (.getfield 80, 3) := by decide +kernel
theorem d_Model_tick_25 : decode b_Model_tick 25 = .ok (.istore_n 3, 1) := by decide +kernel
theorem d_Model_tick_26 : decode b_Model_tick 26 = .ok (.aload_n 0, 1) := by decide +kernel
theorem d_Model_tick_27 : decode b_Model_tick 27 = .ok (.iconst 0, 1) := by decide +kernel
theorem d_Model_tick_28 : decode b_Model_tick 28 = .ok (.putfield 80, 3) := by decide +kernel
theorem d_Model_tick_31 : decode b_Model_tick 31 = .ok (.iload_n 3, 1) := by decide +kernel
theorem d_Model_tick_32 : decode b_Model_tick 32 = .ok (.ireturn, 1) := by decide +kernel
theorem d_Model_settled_0 : decode b_Model_settled 0 = .ok (.aload_n 0, 1) := by decide +kernel
theorem d_Model_settled_1 : decode b_Model_settled 1 = .ok (.iconst 0, 1) := by decide +kernel
theorem d_Model_settled_2 : decode b_Model_settled 2 = .ok (.putfield 52, 3) := by decide +kernel
theorem d_Model_settled_5 : decode b_Model_settled 5 = .ok (.aload_n 0, 1) := by decide +kernel
theorem d_Model_settled_6 : decode b_Model_settled 6 = .ok (.iload_n 1, 1) := by decide +kernel
theorem d_Model_settled_7 : decode b_Model_settled 7 = .ok (.invokevirtual 105, 3) := by decide +kernel
theorem d_Model_settled_10 : decode b_Model_settled 10 = .ok (.ifCond .ne 8, 3) := by decide +kernel
theorem d_Model_settled_13 : decode b_Model_settled 13 = .ok (.bipush (-101), 2) := by decide +kernel
theorem d_Model_settled_15 : decode b_Model_settled 15 = .ok (.goto 22, 3) := by decide +kernel
theorem d_Model_settled_18 : decode b_Model_settled 18 = .ok (.aload_n 0, 1) := by decide +kernel
theorem d_Model_settled_19 : decode b_Model_settled 19 = .ok (.getfield 17, 3) := by decide +kernel
theorem d_Model_settled_22 : decode b_Model_settled 22 = .ok (.iload_n 1, 1) := by decide +kernel
theorem d_Model_settled_23 : decode b_Model_settled 23 = .ok (.iaload, 1) := by decide +kernel
theorem d_Model_settled_24 : decode b_Model_settled 24 = .ok (.ifCond .ne 7, 3) := by decide +kernel
theorem d_Model_settled_27 : decode b_Model_settled 27 = .ok (.iconst (-1), 1) := by decide +kernel
theorem d_Model_settled_28 : decode b_Model_settled 28 = .ok (.goto 9, 3) := by decide +kernel
theorem d_Model_settled_31 : decode b_Model_settled 31 = .ok (.aload_n 0, 1) := by decide +kernel
theorem d_Model_settled_32 : decode b_Model_settled 32 = .ok (.getfield 20, 3) := by decide +kernel
theorem d_Model_settled_35 : decode b_Model_settled 35 = .ok (.iload_n 1, 1) := by decide +kernel
theorem d_Model_settled_36 : decode b_Model_settled 36 = .ok (.iaload, 1) := by decide +kernel
theorem d_Model_settled_37 : decode b_Model_settled 37 = .ok (.ireturn, 1) := by decide +kernel
theorem d_Model_state_0 : decode b_Model_state 0 = .ok (.aload_n 0, 1) := by decide +kernel
theorem d_Model_state_1 : decode b_Model_state 1 = .ok (.iconst 0, 1) := by decide +kernel
theorem d_Model_state_2 : decode b_Model_state 2 = .ok (.putfield 52, 3) := by decide +kernel
theorem d_Model_state_5 : decode b_Model_state 5 = .ok (.aload_n 0, 1) := by decide +kernel
theorem d_Model_state_6 : decode b_Model_state 6 = .ok (.iload_n 1, 1) := by decide +kernel
theorem d_Model_state_7 : decode b_Model_state 7 = .ok (.invokevirtual 105, 3) := by decide +kernel
theorem d_Model_state_10 : decode b_Model_state 10 = .ok (.ifCond .eq 11, 3) := by decide +kernel
theorem d_Model_state_13 : decode b_Model_state 13 = .ok (.aload_n 0, 1) := by decide +kernel
theorem d_Model_state_14 : decode b_Model_state 14 = .ok (.iload_n 1, 1) := by decide +kernel
theorem d_Model_state_15 : decode b_Model_state 15 = .ok (.invokevirtual 114, 3) := by decide +kernel
theorem d_Model_state_18 : decode b_Model_state 18 = .ok (.goto 5, 3) := by decide +kernel
theorem d_Model_state_21 : decode b_Model_state 21 = .ok (.bipush (-101), 2) := by decide +kernel
theorem d_Model_state_23 : decode b_Model_state 23 = .ok (.ireturn, 1) := by decide +kernel
theorem d_Model_agreement_0 : decode b_Model_agreement 0 = .ok (.aload_n 0, 1) := by decide +kernel
theorem d_Model_agreement_1 : decode b_Model_agreement 1 = .ok (.iconst 0, 1) := by decide +kernel
theorem d_Model_agreement_2 : decode b_Model_agreement 2 = .ok (.putfield 52, 3) := by decide +kernel
theorem d_Model_agreement_5 : decode b_Model_agreement 5 = .ok (.iload_n 1, 1) := by decide +kernel
theorem d_Model_agreement_6 : decode b_Model_agreement 6 = .ok (.invokestatic 90, 3) := by decide +kernel
theorem d_Model_agreement_9 : decode b_Model_agreement 9 = .ok (.ifCond .eq 10, 3) := by decide +kernel
theorem d_Model_agreement_12 : decode b_Model_agreement 12 = .ok (.iload_n 2, 1) := by decide +kernel
theorem d_Model_agreement_13 : decode b_Model_agreement 13 = .ok (.invokestatic 90, 3) := by decide +kernel
theorem d_Model_agreement_16 : decode b_Model_agreement 16 = .ok (.ifCond .ne 7, 3) := by decide +kernel
theorem d_Model_agreement_19 : decode b_Model_agreement 19 = .ok (.ldc2_w 119, 3) := by decide +kernel
theorem d_Model_agreement_22 : decode b_Model_agreement 22 = .ok (.lreturn, 1) := by decide +kernel
theorem d_Model_agreement_23 : decode b_Model_agreement 23 = .ok (.iload_n 3, 1) := by decide +kernel
theorem d_Model_agreement_24 : decode b_Model_agreement 24 = .ok (.ifCond .lt 13, 3) := by decide +kernel
theorem d_Model_agreement_27 : decode b_Model_agreement 27 = .ok (.iload_n 3, 1) := by decide +kernel
theorem d_Model_agreement_28 : decode b_Model_agreement 28 = .ok (.iconst 1, 1) := by decide +kernel
theorem d_Model_agreement_29 : decode b_Model_agreement 29 = .ok (.if_icmp .gt 8, 3) := by decide +kernel
theorem d_Model_agreement_32 : decode b_Model_agreement 32 = .ok (.iload_n 1, 1) := by decide +kernel
theorem d_Model_agreement_33 : decode b_Model_agreement 33 = .ok (.iload_n 2, 1) := by decide +kernel
theorem d_Model_agreement_34 : decode b_Model_agreement 34 = .ok (.if_icmp .ne 7, 3) := by decide +kernel
theorem d_Model_agreement_37 : decode b_Model_agreement 37 = .ok (.ldc2_w 121, 3) := by decide +kernel
theorem d_Model_agreement_40 : decode b_Model_agreement 40 = .ok (.lreturn, 1) := by decide +kernel
theorem d_Model_agreement_41 : decode b_Model_agreement 41 = .ok (.iconst 0, 1) := by decide +kernel
theorem d_Model_agreement_42 : decode b_Model_agreement 42 = .ok (.istore 4, 2) := by decide +kernel
theorem d_Model_agreement_44 : decode b_Model_agreement 44 = .ok (.iconst 1, 1) := by decide +kernel
theorem d_Model_agreement_45 : decode b_Model_agreement 45 = .ok (.istore 5, 2) := by decide +kernel
theorem d_Model_agreement_47 : decode b_Model_agreement 47 = .ok (.iload 5, 2) := by decide +kernel
theorem d_Model_agreement_49 : decode b_Model_agreement 49 = .ok (.aload_n 0, 1) := by decide +kernel
theorem d_Model_agreement_50 : decode b_Model_agreement 50 = .ok (.getfield 55, 3) := by decide +kernel
theorem d_Model_agreement_53 : decode b_Model_agreement 53 = .ok (.if_icmp .gt 76, 3) := by decide +kernel
theorem d_Model_agreement_56 : decode b_Model_agreement 56 = .ok (.aload_n 0, 1) := by decide +kernel
theorem d_Model_agreement_57 : decode b_Model_agreement 57 = .ok (.getfield 35, 3) := by decide +kernel
theorem d_Model_agreement_60 : decode b_Model_agreement 60 = .ok (.bipush 20, 2) := by decide +kernel
theorem d_Model_agreement_62 : decode b_Model_agreement 62 = .ok (.iload 5, 2) := by decide +kernel
theorem d_Model_agreement_64 : decode b_Model_agreement 64 = .ok (.imul, 1) := by decide +kernel
theorem d_Model_agreement_65 : decode b_Model_agreement 65 = .ok (.iload_n 1, 1) := by decide +kernel
theorem d_Model_agreement_66 : decode b_Model_agreement 66 = .ok (.iadd, 1) := by decide +kernel
theorem d_Model_agreement_67 : decode b_Model_agreement 67 = .ok (.bipush 20, 2) := by decide +kernel
theorem d_Model_agreement_69 : decode b_Model_agreement 69 = .ok (.isub, 1) := by decide +kernel
theorem d_Model_agreement_70 : decode b_Model_agreement 70 = .ok (.iaload, 1) := by decide +kernel
theorem d_Model_agreement_71 : decode b_Model_agreement 71 = .ok (.istore 6, 2) := by decide +kernel
theorem d_Model_agreement_73 : decode b_Model_agreement 73 = .ok (.aload_n 0, 1) := by decide +kernel
theorem d_Model_agreement_74 : decode b_Model_agreement 74 = .ok (.getfield 35, 3) := by decide +kernel
theorem d_Model_agreement_77 : decode b_Model_agreement 77 = .ok (.bipush 20, 2) := by decide +kernel
theorem d_Model_agreement_79 : decode b_Model_agreement 79 = .ok (.iload 5, 2) := by decide +kernel
theorem d_Model_agreement_81 : decode b_Model_agreement 81 = .ok (.imul, 1) := by decide +kernel
theorem d_Model_agreement_82 : decode b_Model_agreement 82 = .ok (.iload_n 2, 1) := by decide +kernel
theorem d_Model_agreement_83 : decode b_Model_agreement 83 = .ok (.iadd, 1) := by decide +kernel
theorem d_Model_agreement_84 : decode b_Model_agreement 84 = .ok (.bipush 20, 2) := by decide +kernel
theorem d_Model_agreement_86 : decode b_Model_agreement 86 = .ok (.isub, 1) := by decide +kernel
theorem d_Model_agreement_87 : decode b_Model_agreement 87 = .ok (.iaload, 1) := by decide +kernel
theorem d_Model_agreement_88 : decode b_Model_agreement 88 = .ok (.istore 7, 2) := by decide +kernel
theorem d_Model_agreement_90 : decode b_Model_agreement 90 = .ok (.iload 6, 2) := by decide +kernel
theorem d_Model_agreement_92 : decode b_Model_agreement 92 = .ok (.ifCond .lt 27, 3) := by decide +kernel
theorem d_Model_agreement_95 : decode b_Model_agreement 95 = .ok (.iload 7, 2) := by decide +kernel
theorem d_Model_agreement_97 : decode b_Model_agreement 97 = .ok (.ifCond .lt 22, 3) := by decide +kernel
theorem d_Model_agreement_100 : decode b_Model_agreement 100 = .ok (.iload_n 3, 1) := by decide +kernel
theorem d_Model_agreement_101 : decode b_Model_agreement 101 = .ok (.iconst 1, 1) := by decide +kernel
theorem d_Model_agreement_102 : decode b_Model_agreement 102 = .ok (.if_icmp .eq 10, 3) := by decide +kernel
theorem d_Model_agreement_105 : decode b_Model_agreement 105 = .ok (.iload 6, 2) := by decide +kernel
theorem d_Model_agreement_107 : decode b_Model_agreement 107 = .ok (.iload 7, 2) := by decide +kernel
theorem d_Model_agreement_109 : decode b_Model_agreement 109 = .ok (.if_icmp .ne 10, 3) := by decide +kernel
theorem d_Model_agreement_112 : decode b_Model_agreement 112 = .ok (.iload 4, 2) := by decide +kernel
theorem d_Model_agreement_114 : decode b_Model_agreement 114 = .ok (.iconst 1, 1) := by decide +kernel
theorem d_Model_agreement_115 : decode b_Model_agreement 115 = .ok (.iadd, 1) := by decide +kernel
theorem d_Model_agreement_116 : decode b_Model_agreement 116 = .ok (.goto 5, 3) := by decide +kernel
theorem d_Model_agreement_119 : decode b_Model_agreement 119 = .ok (.iload 4, 2) := by decide +kernel
theorem d_Model_agreement_121 : decode b_Model_agreement 121 = .ok (.istore 4, 2) := by decide +kernel
theorem d_Model_agreement_123 : decode b_Model_agreement 123 = .ok (.iinc 5 1, 3) := by decide +kernel
theorem d_Model_agreement_126 : decode b_Model_agreement 126 = .ok (.goto (-79), 3) := by decide +kernel
theorem d_Model_agreement_129 : decode b_Model_agreement 129 = .ok (.iload 4, 2) := by decide +kernel
theorem d_Model_agreement_131 : decode b_Model_agreement 131 = .ok (.i2l, 1) := by decide +kernel
theorem d_Model_agreement_132 : decode b_Model_agreement 132 = .ok (.lreturn, 1) := by decide +kernel
theorem d_Model_waiting_0 : decode b_Model_waiting 0 = .ok (.aload_n 0, 1) := by decide +kernel
theorem d_Model_waiting_1 : decode b_Model_waiting 1 = .ok (.iconst 0, 1) := by decide +kernel
theorem d_Model_waiting_2 : decode b_Model_waiting 2 = .ok (.putfield 52, 3) := by decide +kernel
theorem d_Model_waiting_5 : decode b_Model_waiting 5 = .ok (.aload_n 0, 1) := by decide +kernel
theorem d_Model_waiting_6 : decode b_Model_waiting 6 = .ok (.invokevirtual 76, 3) := by decide +kernel
theorem d_Model_waiting_9 : decode b_Model_waiting 9 = .ok (.ireturn, 1) := by decide +kernel
end
section
/-! THE REFERENCE: its cells, rows for its arrays -/
abbrev eM (AD : Nat → Nat) (th mo ct : Int32) (nw : Int64) (lt : Int32) : va_E := .inr (4, [.int th, .int mo, .int ct, .ref (AD 0), .ref (AD 1), .ref (AD 2), .ref (AD 3), .ref (AD 4), .ref (AD 5), .ref (AD 6), .ref (AD 7), .ref (AD 8), .ref (AD 9), .ref (AD 10), .ref (AD 11), .long nw, .int lt])
def mlen : Nat → Nat
  | 5 => 903
  | 6 => 6020
  | 7 => 6020
  | 8 => 6020
  | 9 => 20
  | 10 => 20
  | 11 => 20
  | _ => 301
def mty : Nat → Nat
  | 9 => 4
  | _ => 2
theorem mlen_lt (k : Nat) : mlen k < 2 ^ 31 := by
  unfold mlen
  split <;> decide
def rM (f : wd_M) (ca : Nat → ClassId) (b : Nat) (AD : Nat → Nat) (th mo : Int32) (n : Nat) (nw : Int64) (lt : Int32) (du : Nat → Int64) (g : Nat → Nat → Int32) : Prop :=
  f b = some (eM AD th mo (nI n) nw lt) ∧ f (AD 0) = some (.inl (ca 3, 301, .inr (.inl du))) ∧ (∀ k : Nat, 1 ≤ k → k ≤ 11 → f (AD k) = some (.inl (ca (mty k), mlen k, .inl (g k)))) ∧ (∀ i j : Nat, i ≤ 11 → j ≤ 11 → AD i = AD j → i = j) ∧ n ≤ 300
section RMS
variable {f f1 : wd_M} {ca : Nat → ClassId} {b : Nat} {AD : Nat → Nat} {th mo th' mo' : Int32} {n n' : Nat} {nw nw' : Int64} {lt lt' : Int32} {du : Nat → Int64} {g : Nat → Nat → Int32}
theorem rM_obj (h : rM f ca b AD th mo n nw lt du g) (e : f1 = wd_up f b (eM AD th' mo' (nI n') nw' lt')) (hn : n' ≤ 300) : rM f1 ca b AD th' mo' n' nw' lt' du g := by
  subst e
  refine ⟨wd_us, ?_, fun k h1 h2 => ?_, h.2.2.2.1, hn⟩
  · rw [wd_un (Ne.symm (wd_neA h.1 h.2.1))]
    exact h.2.1
  · rw [wd_un (Ne.symm (wd_neA h.1 (h.2.2.1 k h1 h2)))]
    exact h.2.2.1 k h1 h2
theorem rM_set (h : rM f ca b AD th mo n nw lt du g) {k : Nat} {u : Nat → Int32} (h1 : 1 ≤ k) (h2 : k ≤ 11) (e : f1 = wd_up f (AD k) (.inl (ca (mty k), mlen k, .inl u))) : rM f1 ca b AD th mo n nw lt du (va_up g k u) := by
  subst e
  refine ⟨?_, ?_, fun j g1 g2 => ?_, h.2.2.2.1, h.2.2.2.2⟩
  · rw [wd_un (wd_neA h.1 (h.2.2.1 k h1 h2))]
    exact h.1
  · rw [wd_un (fun q => by have := h.2.2.2.1 0 k (by omega) h2 q; omega)]
    exact h.2.1
  · by_cases hj : j = k
    · subst hj
      rw [wd_us, show va_up g j u j = u by simp [va_up]]
    · rw [wd_un (fun q => hj (h.2.2.2.1 j k g2 h2 q)), show va_up g k u j = g j by simp [va_up, hj]]
      exact h.2.2.1 j g1 g2
theorem rM_du (h : rM f ca b AD th mo n nw lt du g) {u : Nat → Int64} (e : f1 = wd_up f (AD 0) (.inl (ca 3, 301, .inr (.inl u)))) : rM f1 ca b AD th mo n nw lt u g := by
  subst e
  refine ⟨?_, wd_us, fun j g1 g2 => ?_, h.2.2.2.1, h.2.2.2.2⟩
  · rw [wd_un (wd_neA h.1 h.2.1)]
    exact h.1
  · rw [wd_un (fun q => by have := h.2.2.2.1 j 0 g2 (by omega) q; omega)]
    exact h.2.2.1 j g1 g2
end RMS
section RMR
variable {p : Program} {l : Launch} {e : Env} {R : Room} {s : State} {m : MethodId} {args : Array Value} {below : List Frame} {meth : Method} {c : Code} {H : Heap} {locs : List Loc} {cells slots : Nat} {Q : State → Prop}
variable {cc : ByteArray} {pc nL : Nat} {ls : Array Slot} {rest : List Value} {D : va_G} {A : Nat → Prop} {H0 : Heap} {f : wd_M} {own : String} {Ts : List Cond} {ca : Nat → ClassId} {b : Nat} {AD : Nat → Nat} {th mo : Int32} {n : Nat} {nw : Int64} {lt : Int32} {du : Nat → Int64} {g : Nat → Nat → Int32}
theorem m_ld (X : CallFix p m c cc nL s args Ts own) (hK : va_K D classes (ty ca) s) (hw : wd_I D classes A H0 f H locs) (hm : rM f ca b AD th mo n nw lt du g) {k j : Nat} (h1 : 1 ≤ k) (h2 : k ≤ 11) (h3 : mty k = 2) (hj : j < mlen k) (hdg : decode cc pc = .ok (.iaload, 1))
    (kk : W p l e R s m args below meth c H locs cells slots Q (F0 m (pc + 1) ls (.int (g k j) :: rest))) : W p l e R s m args below meth c H locs cells slots Q (F0 m pc ls (.int (nI j) :: .ref (AD k) :: rest)) := by
  have ha := hm.2.2.1 k h1 h2
  rw [h3] at ha
  exact wd_iald X hK hw ha 2 rfl (vp_in_nI hj (mlen_lt k)) hdg (by rw [nI_clamp (Nat.lt_trans hj (mlen_lt k))]; exact kk)
theorem m_ldz (X : CallFix p m c cc nL s args Ts own) (hK : va_K D classes (ty ca) s) (hw : wd_I D classes A H0 f H locs) (hm : rM f ca b AD th mo n nw lt du g) {j : Nat} (hj : j < 20) (hdg : decode cc pc = .ok (.baload, 1))
    (kk : W p l e R s m args below meth c H locs cells slots Q (F0 m (pc + 1) ls (.int (g 9 j) :: rest))) : W p l e R s m args below meth c H locs cells slots Q (F0 m pc ls (.int (nI j) :: .ref (AD 9) :: rest)) := by
  have ha := hm.2.2.1 9 (by decide) (by decide)
  exact wd_zald X hK hw ha 4 rfl (vp_in_nI hj (by decide)) hdg (by rw [nI_clamp (Nat.lt_trans hj (by decide))]; exact kk)
theorem m_ldl (X : CallFix p m c cc nL s args Ts own) (hK : va_K D classes (ty ca) s) (hw : wd_I D classes A H0 f H locs) (hm : rM f ca b AD th mo n nw lt du g) {j : Nat} (hj : j < 301) (hdg : decode cc pc = .ok (.laload, 1))
    (kk : W p l e R s m args below meth c H locs cells slots Q (F0 m (pc + 1) ls (.long (du j) :: rest))) : W p l e R s m args below meth c H locs cells slots Q (F0 m pc ls (.int (nI j) :: .ref (AD 0) :: rest)) :=
  wd_lald X hK hw hm.2.1 3 rfl (vp_in_nI hj (by decide)) hdg (by rw [nI_clamp (Nat.lt_trans hj (by decide))]; exact kk)
theorem m_st (X : CallFix p m c cc nL s args Ts own) (hK : va_K D classes (ty ca) s) (hw : wd_I D classes A H0 f H locs) (hm : rM f ca b AD th mo n nw lt du g) {k j : Nat} {x : Int32} (h1 : 1 ≤ k) (h2 : k ≤ 11) (h3 : mty k = 2) (hj : j < mlen k) (hdg : decode cc pc = .ok (.iastore, 1))
    (kk : ∀ (f1 : wd_M) (H1 : Heap) (locs1 : List Loc), rM f1 ca b AD th mo n nw lt du (va_up g k (upd (g k) j x)) → wd_I D classes A H0 f1 H1 locs1 → W p l e R s m args below meth c H1 locs1 cells slots Q (F0 m (pc + 1) ls rest)) : W p l e R s m args below meth c H locs cells slots Q (F0 m pc ls (.int x :: .int (nI j) :: .ref (AD k) :: rest)) := by
  have ha := hm.2.2.1 k h1 h2
  have hs := fun (f1 : wd_M) (u : Nat → Int32) => rM_set (f1 := f1) (u := u) hm h1 h2
  rw [h3] at ha hs
  refine wd_iast X hK hw ha 2 rfl (vp_in_nI hj (mlen_lt k)) hdg (fun f1 H1 locs1 e1 hw1 => ?_)
  rw [nI_clamp (Nat.lt_trans hj (mlen_lt k))] at e1
  exact kk f1 H1 locs1 (hs f1 _ e1) hw1
theorem m_stl (X : CallFix p m c cc nL s args Ts own) (hK : va_K D classes (ty ca) s) (hw : wd_I D classes A H0 f H locs) (hm : rM f ca b AD th mo n nw lt du g) {j : Nat} {x : Int64} (hj : j < 301) (hdg : decode cc pc = .ok (.lastore, 1))
    (kk : ∀ (f1 : wd_M) (H1 : Heap) (locs1 : List Loc), rM f1 ca b AD th mo n nw lt (vp_updL du j x) g → wd_I D classes A H0 f1 H1 locs1 → W p l e R s m args below meth c H1 locs1 cells slots Q (F0 m (pc + 1) ls rest)) : W p l e R s m args below meth c H locs cells slots Q (F0 m pc ls (.long x :: .int (nI j) :: .ref (AD 0) :: rest)) := by
  refine wd_last X hK hw hm.2.1 3 rfl (vp_in_nI hj (by decide)) hdg (fun f1 H1 locs1 e1 hw1 => ?_)
  rw [nI_clamp (Nat.lt_trans hj (by decide))] at e1
  exact kk f1 H1 locs1 (rM_du hm e1) hw1
theorem m_stz (X : CallFix p m c cc nL s args Ts own) (hK : va_K D classes (ty ca) s) (hw : wd_I D classes A H0 f H locs) (hm : rM f ca b AD th mo n nw lt du g) {j : Nat} {x : Int32} (hx : vp_nar .boolean x = x) (hj : j < 20) (hdg : decode cc pc = .ok (.bastore, 1))
    (kk : ∀ (f1 : wd_M) (H1 : Heap) (locs1 : List Loc), rM f1 ca b AD th mo n nw lt du (va_up g 9 (upd (g 9) j x)) → wd_I D classes A H0 f1 H1 locs1 → W p l e R s m args below meth c H1 locs1 cells slots Q (F0 m (pc + 1) ls rest)) : W p l e R s m args below meth c H locs cells slots Q (F0 m pc ls (.int x :: .int (nI j) :: .ref (AD 9) :: rest)) := by
  have ha := hm.2.2.1 9 (by decide) (by decide)
  refine wd_zast X hK hw ha 4 rfl (vp_in_nI hj (by decide)) hdg (fun f1 H1 locs1 e1 hw1 => ?_)
  rw [nI_clamp (Nat.lt_trans hj (by decide)), hx] at e1
  exact kk f1 H1 locs1 (rM_set hm (by decide) (by decide) e1) hw1
end RMR
theorem ix20 (i c : Nat) : ((20 * nI (i + 1)) + nI c) - 20 = nI (20 * i + c) := by
  have e : (20 : Int32) = nI 20 := rfl
  rw [e, pk_mul, nI_add, pk_sub (by omega)]
  congr 1
  omega
theorem ix3 (p : Nat) : 3 * nI p = nI (3 * p) := by
  have e : (3 : Int32) = nI 3 := rfl
  rw [e, pk_mul]
theorem ix31 (p : Nat) : 3 * nI p + 1 = nI (3 * p + 1) := by rw [ix3, nI_succ]
theorem ix3k (p k : Nat) : 3 * nI p + nI k = nI (3 * p + k) := by rw [ix3, nI_add]
/-- what the reference's methods answer -/
def oW (e : Nat → Int32) : Nat → Nat
  | 0 => 0
  | i + 1 => if e (i + 1) = 0 then oW e i + 1 else oW e i
def hd (d : Nat → Int32) (j : Nat) : Nat → Nat
  | 0 => 0
  | i + 1 => if d (20 * i + j) = 2 then i + 1 else hd d j i
def hc (d : Nat → Int32) (i : Nat) : Nat → Nat
  | 0 => 0
  | m + 1 => if d (20 * i + m) = 2 then hc d i m + 1 else hc d i m
abbrev dff (a e : Nat → Int32) (i : Nat) : Prop := ¬ a (i + 1) ≤ 1 ∧ ¬ e (3 * (i + 1)) = e (3 * (i + 1) + 1)
abbrev tkn (a e d : Nat → Int32) (i : Nat) : Prop := ¬ (a (i + 1) + nI (hc d i 20)) < (if dff a e i then 3 else 2)
def aln (d w : Nat → Int32) (o : Int32) (i : Nat) : Nat → Bool
  | 0 => true
  | m + 1 => aln d w o i m && !(!decide (d (20 * i + m) ≤ 1) && decide (w (20 * i + m) = o))
def zi (b : Bool) : Int32 := if b = true then 1 else 0
abbrev mfr (g : Nat → Nat → Int32) (i j : Nat) : Prop := (((g 2 (i + 1) = 0 ∧ ¬ tkn (g 4) (g 5) (g 6) i) ∧ ¬ g 11 j < g 1 (i + 1)) ∧ g 6 (20 * i + j) = 0) ∧ (aln (g 6) (g 7) (g 10 j) i 20 = true ∨ dff (g 4) (g 5) i)
/-- the best from place i on, as the reference looks: from the last one down -/
def mbs (du : Nat → Int64) (F : Nat → Bool) (n : Nat) : Nat → Nat
  | 0 => 0
  | d + 1 => if F (n - d - 1) = true ∧ (mbs du F n d = 0 ∨ ¬ du (mbs du F n d) < du (n - d)) then n - d else mbs du F n d
def mC (t : Int64) (du : Nat → Int64) (e : Nat → Int32) : Nat → Nat
  | 0 => 0
  | i + 1 => if e (i + 1) = 0 ∧ du (i + 1) < t then mC t du e i + 1 else mC t du e i
def mE (t : Int64) (du : Nat → Int64) (e : Nat → Int32) (i : Nat) : Nat → Int32 := fun p => if (1 ≤ p ∧ p ≤ i) ∧ (e p = 0 ∧ du p < t) then 4 else e p
theorem mE_0 {t : Int64} {du : Nat → Int64} {e : Nat → Int32} : mE t du e 0 = e := by
  funext p
  exact if_neg (fun q => by omega)
theorem mE_gt {t : Int64} {du : Nat → Int64} {e : Nat → Int32} {i p : Nat} (h : i < p) : mE t du e i p = e p := if_neg (fun q => by omega)
theorem mE_no {t : Int64} {du : Nat → Int64} {e : Nat → Int32} {i : Nat} (h : ¬ (e (i + 1) = 0 ∧ du (i + 1) < t)) : mE t du e (i + 1) = mE t du e i := by
  funext p
  by_cases hp : p = i + 1
  · subst hp
    rw [mE_gt (Nat.lt_succ_self i)]
    exact if_neg (fun q => h q.2)
  · unfold mE
    by_cases h1 : (1 ≤ p ∧ p ≤ i) ∧ (e p = 0 ∧ du p < t)
    · rw [if_pos h1, if_pos ⟨⟨h1.1.1, by omega⟩, h1.2⟩]
    · rw [if_neg h1, if_neg (fun q => h1 ⟨⟨q.1.1, by omega⟩, q.2⟩)]
theorem mE_yes {t : Int64} {du : Nat → Int64} {e : Nat → Int32} {i : Nat} (h : e (i + 1) = 0 ∧ du (i + 1) < t) : mE t du e (i + 1) = upd (mE t du e i) (i + 1) 4 := by
  funext p
  by_cases hp : p = i + 1
  · subst hp
    rw [pk_us]
    exact if_pos ⟨⟨by omega, Nat.le_refl _⟩, h⟩
  · rw [pk_un hp]
    unfold mE
    by_cases h1 : (1 ≤ p ∧ p ≤ i) ∧ (e p = 0 ∧ du p < t)
    · rw [if_pos h1, if_pos ⟨⟨h1.1.1, by omega⟩, h1.2⟩]
    · rw [if_neg h1, if_neg (fun q => h1 ⟨⟨q.1.1, by omega⟩, q.2⟩)]
theorem i64 {x y : Int32} : x.toInt64 < y.toInt64 ↔ x < y := by
  rw [Int64.lt_iff_toInt_lt, Int32.lt_iff_toInt_lt, Int32.toInt_toInt64, Int32.toInt_toInt64]
theorem pic_iff {x y : Int32} : (¬ x.toInt64 < 1 ∧ ¬ y.toInt64 < x.toInt64) ↔ (¬ x < 1 ∧ ¬ y < x) := by
  rw [i64, show (1 : Int64) = (1 : Int32).toInt64 from rfl, i64]
theorem clk_iff {x : Int32} : (¬ x.toInt64 < 0 ∧ ¬ 19 < x.toInt64) ↔ okK x := by
  rw [show (0 : Int64) = (0 : Int32).toInt64 from rfl, show (19 : Int64) = (19 : Int32).toInt64 from rfl, i64, i64]
  have e1 : (19 : Int32).toInt = 19 := by decide
  have e2 : (20 : Int32).toInt = 20 := by decide
  unfold okK
  rw [Int32.lt_iff_toInt_lt (x := 19), Int32.le_iff_toInt_le, e1, e2]
  constructor
  · rintro ⟨h1, h2⟩; exact ⟨h1, by omega⟩
  · rintro ⟨h1, h2⟩; exact ⟨h1, by omega⟩
theorem wi3_iff {x : Int32} : (¬ x.toInt64 < 0 ∧ ¬ 3 < x.toInt64) ↔ wi x 3 := by
  rw [show (0 : Int64) = (0 : Int32).toInt64 from rfl, show (3 : Int64) = (3 : Int32).toInt64 from rfl, i64, i64]
theorem wi4_iff {x : Int32} : (¬ x.toInt64 < 0 ∧ ¬ 4 < x.toInt64) ↔ wi x 4 := by
  rw [show (0 : Int64) = (0 : Int32).toInt64 from rfl, show (4 : Int64) = (4 : Int32).toInt64 from rfl, i64, i64]
theorem wi9_iff {x : Int32} : (¬ x.toInt64 < 0 ∧ ¬ 9999 < x.toInt64) ↔ wi x 9999 := by
  rw [show (0 : Int64) = (0 : Int32).toInt64 from rfl, show (9999 : Int64) = (9999 : Int32).toInt64 from rfl, i64, i64]
theorem cmp_ngt {x y : Int64} (h : ¬ 0 < lg_cmp x y) : ¬ y < x := fun q => h ((lg_cmp_gt x y).mpr q)
theorem cmp_gt {x y : Int64} (h : 0 < lg_cmp x y) : y < x := (lg_cmp_gt x y).mp h
abbrev mst (g : Nat → Nat → Int32) (i : Nat) : Int32 := if g 2 (i + 1) = 0 then (if tkn (g 4) (g 5) (g 6) i then 1 else 0) else g 2 (i + 1)
end
section
abbrev rm_Model_isIn : Room := { frames := 0, cells := 0, slots := 0, locals := 0 }
set_option maxHeartbeats 4000000 in
set_option maxRecDepth 100000 in
theorem c_Model_isIn {l : Launch} {D : va_G} {ca : Nat → ClassId} {f : wd_M} (x lo hi : Int64) : Met l y_Model_isIn (.code y_Model_isIn b_Model_isIn 6 (some .boolean) :: tb) rm_Model_isIn (va_Pc [.long x, .long lo, .long hi] (wd_pre D classes (ty ca) f)) (vp_Si (zb (¬ x < lo ∧ ¬ hi < x))) 0 0 (fun _ => False) := by
  refine wd_Sz (own := R_Model) (by decide) rfl (Nat.le_of_ble_eq_true rfl) ?_
  intro p e s m args below meth c Q X hK hw ret ls hl
  have hx := X.1
  have hb := X.2.1
  have hown := X.2.2.2.1
  have hts := X.2.2.2.2
  have hl : lv_has ls 6 [(0, .long x), (2, .long lo), (4, .long hi)] := hl
  refine lv_lload_n hx hb d_Model_isIn_0 rfl (lv_at hl 0 rfl) ?_
  refine lv_lload_n hx hb d_Model_isIn_1 rfl (lv_at hl 1 rfl) ?_
  refine W.lcmp hx hb d_Model_isIn_2 ?_
  refine lv_if_lt (tgt := 17) hx hb d_Model_isIn_3 (by decide) (fun c1 => ?_) (fun c1 => ?_)
  · skip
    refine lv_iconst (v := 0) hx hb d_Model_isIn_17 (by decide) ?_
    exact ret _ _ _ d_Model_isIn_18 rfl (Or.inr ⟨fun h => h.1 ((lg_cmp_lt _ _).mp c1), rfl⟩)
  · skip
    refine lv_lload_n hx hb d_Model_isIn_6 rfl (lv_at hl 0 rfl) ?_
    refine lv_lload hx hb d_Model_isIn_7 (lv_at hl 2 rfl) ?_
    refine W.lcmp hx hb d_Model_isIn_9 ?_
    refine lv_if_gt (tgt := 17) hx hb d_Model_isIn_10 (by decide) (fun c2 => ?_) (fun c2 => ?_)
    · skip
      refine lv_iconst (v := 0) hx hb d_Model_isIn_17 (by decide) ?_
      exact ret _ _ _ d_Model_isIn_18 rfl (Or.inr ⟨fun h => h.2 ((lg_cmp_gt _ _).mp c2), rfl⟩)
    · skip
      refine lv_iconst (v := 1) hx hb d_Model_isIn_13 (by decide) ?_
      refine lv_goto (tgt := 18) hx hb d_Model_isIn_14 (by decide) ?_
      exact ret _ _ _ d_Model_isIn_18 rfl (Or.inl ⟨⟨fun h => c1 ((lg_cmp_lt _ _).mpr h), fun h => c2 ((lg_cmp_gt _ _).mpr h)⟩, rfl⟩)

abbrev rm_Model_isPicture : Room := { frames := 1, cells := 0, slots := 0, locals := 25 }
set_option maxHeartbeats 4000000 in
set_option maxRecDepth 100000 in
theorem c_Model_isPicture {l : Launch} {D : va_G} {ca : Nat → ClassId} {f : wd_M} (b : Nat) (AD : Nat → Nat) (th mo : Int32) (n : Nat) (nw : Int64) (lt : Int32) (du : Nat → Int64) (g : Nat → Nat → Int32) (hm : rM f ca b AD th mo n nw lt du g) (x : Int32) : Met l y_Model_isPicture (.code y_Model_isPicture b_Model_isPicture 2 (some .boolean) :: tb) rm_Model_isPicture (va_Pc [.ref b, .int x] (wd_pre D classes (ty ca) f)) (vp_Si (zb (¬ x < 1 ∧ ¬ nI n < x))) 0 0 (fun _ => False) := by
  refine wd_Sz (own := R_Model) (by decide) rfl (Nat.le_of_ble_eq_true rfl) ?_
  intro p e s m args below meth c Q X hK hw ret ls hl
  have hx := X.1
  have hb := X.2.1
  have hown := X.2.2.2.1
  have hts := X.2.2.2.2
  have hl : lv_has ls 2 [(0, .ref b), (1, .int x)] := hl
  refine lv_iload_n hx hb d_Model_isPicture_0 rfl (lv_at hl 1 rfl) ?_
  refine lv_i2l hx hb d_Model_isPicture_1 rfl ?_
  refine lv_lconst (v := 1) hx hb d_Model_isPicture_2 (by decide) ?_
  refine lv_aload_n hx hb d_Model_isPicture_3 rfl (lv_at hl 0 rfl) ?_
  refine fg_Model_55 X hK hw hm.1 d_Model_isPicture_4 ?_
  refine lv_i2l hx hb d_Model_isPicture_7 rfl ?_
  refine wd_csi (As := [.long ((x).toInt64), .long 1, .long (((nI n)).toInt64)]) (rest := []) X hK hw (c_Model_isIn x.toInt64 1 (nI n).toInt64) (cw_Model_58 hts rfl rfl ⟨(Nat.le_of_ble_eq_true rfl), (Nat.le_of_ble_eq_true rfl)⟩) rfl hl.1 rfl (Nat.le_of_ble_eq_true rfl) d_Model_isPicture_8 ⟨(Nat.le_of_ble_eq_true rfl), (Nat.le_of_ble_eq_true rfl)⟩ (fun r hz => ?_)
  rcases hz with ⟨z1, rfl⟩ | ⟨z1, rfl⟩
  · skip
    rw [pic_iff] at z1
    exact ret _ _ _ d_Model_isPicture_11 rfl (Or.inl ⟨z1, rfl⟩)
  · skip
    rw [pic_iff] at z1
    exact ret _ _ _ d_Model_isPicture_11 rfl (Or.inr ⟨z1, rfl⟩)

abbrev rm_Model_isClerk : Room := { frames := 1, cells := 0, slots := 0, locals := 25 }
set_option maxHeartbeats 4000000 in
set_option maxRecDepth 100000 in
theorem c_Model_isClerk {l : Launch} {D : va_G} {ca : Nat → ClassId} {f : wd_M} (x : Int32) : Met l y_Model_isClerk (.code y_Model_isClerk b_Model_isClerk 1 (some .boolean) :: tb) rm_Model_isClerk (va_Pc [.int x] (wd_pre D classes (ty ca) f)) (vp_Si (zb (okK x))) 0 0 (fun _ => False) := by
  refine wd_Sz (own := R_Model) (by decide) rfl (Nat.le_of_ble_eq_true rfl) ?_
  intro p e s m args below meth c Q X hK hw ret ls hl
  have hx := X.1
  have hb := X.2.1
  have hown := X.2.2.2.1
  have hts := X.2.2.2.2
  have hl : lv_has ls 1 [(0, .int x)] := hl
  refine lv_iload_n hx hb d_Model_isClerk_0 rfl (lv_at hl 0 rfl) ?_
  refine lv_i2l hx hb d_Model_isClerk_1 rfl ?_
  refine lv_lconst (v := 0) hx hb d_Model_isClerk_2 (by decide) ?_
  refine lv_ldc2 (v := 19) hx hb hown (hts _ k_Model_62) d_Model_isClerk_3 ?_
  refine wd_csi (As := [.long ((x).toInt64), .long 0, .long 19]) (rest := []) X hK hw (c_Model_isIn x.toInt64 0 19) (cw_Model_58 hts rfl rfl ⟨(Nat.le_of_ble_eq_true rfl), (Nat.le_of_ble_eq_true rfl)⟩) rfl hl.1 rfl (Nat.le_of_ble_eq_true rfl) d_Model_isClerk_6 ⟨(Nat.le_of_ble_eq_true rfl), (Nat.le_of_ble_eq_true rfl)⟩ (fun r hz => ?_)
  rcases hz with ⟨z1, rfl⟩ | ⟨z1, rfl⟩
  · skip
    rw [clk_iff] at z1
    exact ret _ _ _ d_Model_isClerk_9 rfl (Or.inl ⟨z1, rfl⟩)
  · skip
    rw [clk_iff] at z1
    exact ret _ _ _ d_Model_isClerk_9 rfl (Or.inr ⟨z1, rfl⟩)

abbrev rm_Model_isTime : Room := { frames := 1, cells := 0, slots := 0, locals := 25 }
set_option maxHeartbeats 4000000 in
set_option maxRecDepth 100000 in
theorem c_Model_isTime {l : Launch} {D : va_G} {ca : Nat → ClassId} {f : wd_M} (b : Nat) (AD : Nat → Nat) (th mo : Int32) (n : Nat) (nw : Int64) (lt : Int32) (du : Nat → Int64) (g : Nat → Nat → Int32) (hm : rM f ca b AD th mo n nw lt du g) (t : Int64) : Met l y_Model_isTime (.code y_Model_isTime b_Model_isTime 3 (some .boolean) :: tb) rm_Model_isTime (va_Pc [.ref b, .long t] (wd_pre D classes (ty ca) f)) (vp_Si (zb (isT nw t))) 0 0 (fun _ => False) := by
  refine wd_Sz (own := R_Model) (by decide) rfl (Nat.le_of_ble_eq_true rfl) ?_
  intro p e s m args below meth c Q X hK hw ret ls hl
  have hx := X.1
  have hb := X.2.1
  have hown := X.2.2.2.1
  have hts := X.2.2.2.2
  have hl : lv_has ls 3 [(0, .ref b), (1, .long t)] := hl
  refine lv_lload_n hx hb d_Model_isTime_0 rfl (lv_at hl 1 rfl) ?_
  refine lv_aload_n hx hb d_Model_isTime_1 rfl (lv_at hl 0 rfl) ?_
  refine fg_Model_64 X hK hw hm.1 d_Model_isTime_2 ?_
  refine lv_ldc2 (v := 1000000000) hx hb hown (hts _ k_Model_68) d_Model_isTime_5 ?_
  refine wd_csi (As := [.long t, .long nw, .long 1000000000]) (rest := []) X hK hw (c_Model_isIn t nw 1000000000) (cw_Model_58 hts rfl rfl ⟨(Nat.le_of_ble_eq_true rfl), (Nat.le_of_ble_eq_true rfl)⟩) rfl hl.1 rfl (Nat.le_of_ble_eq_true rfl) d_Model_isTime_8 ⟨(Nat.le_of_ble_eq_true rfl), (Nat.le_of_ble_eq_true rfl)⟩ (fun r hz => ?_)
  rcases hz with ⟨z1, rfl⟩ | ⟨z1, rfl⟩
  · skip
    exact ret _ _ _ d_Model_isTime_11 rfl (Or.inl ⟨z1, rfl⟩)
  · skip
    exact ret _ _ _ d_Model_isTime_11 rfl (Or.inr ⟨z1, rfl⟩)

abbrev rm_Model_open : Room := { frames := 0, cells := 0, slots := 0, locals := 0 }
set_option maxHeartbeats 4000000 in
set_option maxRecDepth 100000 in
theorem c_Model_open {l : Launch} {D : va_G} {ca : Nat → ClassId} {f : wd_M} (b : Nat) (AD : Nat → Nat) (th mo : Int32) (n : Nat) (nw : Int64) (lt : Int32) (du : Nat → Int64) (g : Nat → Nat → Int32) (hm : rM f ca b AD th mo n nw lt du g) : Met l y_Model_open (.code y_Model_open b_Model_open 3 (some .int) :: tb) rm_Model_open (va_Pc [.ref b] (wd_pre D classes (ty ca) f)) (vp_Si (fun r => r = nI (oW (g 2) n))) 0 0 (fun _ => False) := by
  refine wd_Si (own := R_Model) (by decide) rfl (Nat.le_of_ble_eq_true rfl) ?_
  intro p e s m args below meth c Q X hK hw ret ls hl
  have hx := X.1
  have hb := X.2.1
  have hown := X.2.2.2.1
  have hts := X.2.2.2.2
  have hl : lv_has ls 3 [(0, .ref b)] := hl
  have hn : n ≤ 300 := hm.2.2.2.2
  refine lv_iconst (v := 0) hx hb d_Model_open_0 (by decide) ?_
  refine lv_istore_n (lv' := [(1, .int 0), (0, .ref b)]) hx hb d_Model_open_1 rfl hl (by decide) rfl (fun ls hl => ?_)
  refine lv_iconst (v := 1) hx hb d_Model_open_2 (by decide) ?_
  refine lv_istore_n (lv' := [(2, .int 1), (1, .int 0), (0, .ref b)]) hx hb d_Model_open_3 rfl hl (by decide) rfl (fun ls hl => ?_)
  have loop : ∀ (d i : Nat) (k : Nat) (ls : Array Slot), n = i + d → k = oW (g 2) i → lv_has ls 3 [(2, .int (nI (i + 1))), (1, .int (nI k)), (0, .ref b)] → W p l e rm_Model_open s m args below meth c s.heap [] 0 0 Q (F0 m 4 ls []) := by
    intro d
    induction d with
    | zero =>
      intro i k ls hdd hk hl
      have hin : i = n := by omega
      refine lv_iload_n hx hb d_Model_open_4 rfl (lv_at hl 0 rfl) ?_
      refine lv_aload_n hx hb d_Model_open_5 rfl (lv_at hl 2 rfl) ?_
      refine fg_Model_55 X hK hw hm.1 d_Model_open_6 ?_
      refine lv_icmp_gt (tgt := 35) hx hb d_Model_open_9 (by decide) (fun _ => ?_) (fun c => absurd (nI_lt (by omega) (by omega)) c)
      refine lv_iload_n hx hb d_Model_open_35 rfl (lv_at hl 1 rfl) ?_
      exact ret _ _ _ d_Model_open_36 (by rw [hk, hin])
    | succ d ih =>
      intro i k ls hdd hk hl
      have hin : i < n := by omega
      refine lv_iload_n hx hb d_Model_open_4 rfl (lv_at hl 0 rfl) ?_
      refine lv_aload_n hx hb d_Model_open_5 rfl (lv_at hl 2 rfl) ?_
      refine fg_Model_55 X hK hw hm.1 d_Model_open_6 ?_
      refine lv_icmp_gt (tgt := 35) hx hb d_Model_open_9 (by decide) (fun c => absurd c (nI_nlt (by omega) (by omega))) (fun _ => ?_)
      refine lv_aload_n hx hb d_Model_open_12 rfl (lv_at hl 2 rfl) ?_
      refine fg_Model_17 X hK hw hm.1 d_Model_open_13 ?_
      refine lv_iload_n hx hb d_Model_open_16 rfl (lv_at hl 0 rfl) ?_
      refine m_ld X hK hw hm (k := 2) (j := i + 1) (by decide) (by decide) rfl (by show i + 1 < 301; omega) d_Model_open_17 ?_
      refine lv_if_ne (tgt := 27) hx hb d_Model_open_18 (by decide) (fun c1 => ?_) (fun c1 => ?_)
      · skip
        refine lv_iload_n hx hb d_Model_open_27 rfl (lv_at hl 1 rfl) ?_
        refine lv_istore_n (lv' := [(1, .int (nI k)), (2, .int (nI (i + 1))), (0, .ref b)]) hx hb d_Model_open_28 rfl hl (by decide) rfl (fun ls hl => ?_)
        refine lv_iinc (v := ((nI (i + 1)) + 1)) (lv' := [(2, .int ((nI (i + 1)) + 1)), (1, .int (nI k)), (0, .ref b)]) hx hb d_Model_open_29 hl (k := 1) rfl rfl (by decide) rfl (fun ls hl => ?_)
        refine lv_goto (tgt := 4) hx hb d_Model_open_32 (by decide) ?_
        exact ih (i + 1) k ls (by omega) (by rw [hk]; exact (if_neg c1).symm) (by rw [nI_succ (i + 1)]; exact lv_sub hl [0, 1, 2] rfl)
      · skip
        refine lv_iload_n hx hb d_Model_open_21 rfl (lv_at hl 1 rfl) ?_
        refine lv_iconst (v := 1) hx hb d_Model_open_22 (by decide) ?_
        refine lv_iadd hx hb d_Model_open_23 ?_
        refine lv_goto (tgt := 28) hx hb d_Model_open_24 (by decide) ?_
        refine lv_istore_n (lv' := [(1, .int ((nI k) + 1)), (2, .int (nI (i + 1))), (0, .ref b)]) hx hb d_Model_open_28 rfl hl (by decide) rfl (fun ls hl => ?_)
        refine lv_iinc (v := ((nI (i + 1)) + 1)) (lv' := [(2, .int ((nI (i + 1)) + 1)), (1, .int ((nI k) + 1)), (0, .ref b)]) hx hb d_Model_open_29 hl (k := 1) rfl rfl (by decide) rfl (fun ls hl => ?_)
        refine lv_goto (tgt := 4) hx hb d_Model_open_32 (by decide) ?_
        exact ih (i + 1) (k + 1) ls (by omega) (by rw [hk]; exact (if_pos c1).symm) (by rw [nI_succ (i + 1), nI_succ k]; exact lv_sub hl [0, 1, 2] rfl)
  exact loop n 0 0 ls (Nat.zero_add _).symm rfl (lv_sub hl [0, 1, 2] rfl)

abbrev rm_Model_held : Room := { frames := 0, cells := 0, slots := 0, locals := 0 }
set_option maxHeartbeats 4000000 in
set_option maxRecDepth 100000 in
theorem c_Model_held {l : Launch} {D : va_G} {ca : Nat → ClassId} {f : wd_M} (b : Nat) (AD : Nat → Nat) (th mo : Int32) (n : Nat) (nw : Int64) (lt : Int32) (du : Nat → Int64) (g : Nat → Nat → Int32) (hm : rM f ca b AD th mo n nw lt du g) (j : Nat) (hj : j < 20) : Met l y_Model_held (.code y_Model_held b_Model_held 4 (some .int) :: tb) rm_Model_held (va_Pc [.ref b, .int (nI j)] (wd_pre D classes (ty ca) f)) (vp_Si (fun r => r = nI (hd (g 6) j n))) 0 0 (fun _ => False) := by
  refine wd_Si (own := R_Model) (by decide) rfl (Nat.le_of_ble_eq_true rfl) ?_
  intro p e s m args below meth c Q X hK hw ret ls hl
  have hx := X.1
  have hb := X.2.1
  have hown := X.2.2.2.1
  have hts := X.2.2.2.2
  have hl : lv_has ls 4 [(0, .ref b), (1, .int (nI j))] := hl
  have hn : n ≤ 300 := hm.2.2.2.2
  refine lv_iconst (v := 0) hx hb d_Model_held_0 (by decide) ?_
  refine lv_istore_n (lv' := [(2, .int 0), (0, .ref b), (1, .int (nI j))]) hx hb d_Model_held_1 rfl hl (by decide) rfl (fun ls hl => ?_)
  refine lv_iconst (v := 1) hx hb d_Model_held_2 (by decide) ?_
  refine lv_istore_n (lv' := [(3, .int 1), (2, .int 0), (0, .ref b), (1, .int (nI j))]) hx hb d_Model_held_3 rfl hl (by decide) rfl (fun ls hl => ?_)
  have loop : ∀ (d i : Nat) (k : Nat) (ls : Array Slot), n = i + d → k = hd (g 6) j i → lv_has ls 4 [(3, .int (nI (i + 1))), (2, .int (nI k)), (1, .int (nI j)), (0, .ref b)] → W p l e rm_Model_held s m args below meth c s.heap [] 0 0 Q (F0 m 4 ls []) := by
    intro d
    induction d with
    | zero =>
      intro i k ls hdd hk hl
      have hin : i = n := by omega
      refine lv_iload_n hx hb d_Model_held_4 rfl (lv_at hl 0 rfl) ?_
      refine lv_aload_n hx hb d_Model_held_5 rfl (lv_at hl 3 rfl) ?_
      refine fg_Model_55 X hK hw hm.1 d_Model_held_6 ?_
      refine lv_icmp_gt (tgt := 42) hx hb d_Model_held_9 (by decide) (fun _ => ?_) (fun c => absurd (nI_lt (by omega) (by omega)) c)
      refine lv_iload_n hx hb d_Model_held_42 rfl (lv_at hl 1 rfl) ?_
      exact ret _ _ _ d_Model_held_43 (by rw [hk, hin])
    | succ d ih =>
      intro i k ls hdd hk hl
      have hin : i < n := by omega
      refine lv_iload_n hx hb d_Model_held_4 rfl (lv_at hl 0 rfl) ?_
      refine lv_aload_n hx hb d_Model_held_5 rfl (lv_at hl 3 rfl) ?_
      refine fg_Model_55 X hK hw hm.1 d_Model_held_6 ?_
      refine lv_icmp_gt (tgt := 42) hx hb d_Model_held_9 (by decide) (fun c => absurd c (nI_nlt (by omega) (by omega))) (fun _ => ?_)
      refine lv_aload_n hx hb d_Model_held_12 rfl (lv_at hl 3 rfl) ?_
      refine fg_Model_29 X hK hw hm.1 d_Model_held_13 ?_
      refine lv_bipush (v := 20) hx hb d_Model_held_16 (by decide) ?_
      refine lv_iload_n hx hb d_Model_held_18 rfl (lv_at hl 0 rfl) ?_
      refine lv_imul hx hb d_Model_held_19 ?_
      refine lv_iload_n hx hb d_Model_held_20 rfl (lv_at hl 2 rfl) ?_
      refine lv_iadd hx hb d_Model_held_21 ?_
      refine lv_bipush (v := 20) hx hb d_Model_held_22 (by decide) ?_
      refine lv_isub hx hb d_Model_held_24 ?_
      rw [ix20 i j]
      refine m_ld X hK hw hm (k := 6) (j := 20 * i + j) (by decide) (by decide) rfl (by show 20 * i + j < 6020; omega) d_Model_held_25 ?_
      refine lv_iconst (v := 2) hx hb d_Model_held_26 (by decide) ?_
      refine lv_icmp_ne (tgt := 34) hx hb d_Model_held_27 (by decide) (fun c1 => ?_) (fun c1 => ?_)
      · skip
        refine lv_iload_n hx hb d_Model_held_34 rfl (lv_at hl 1 rfl) ?_
        refine lv_istore_n (lv' := [(2, .int (nI k)), (3, .int (nI (i + 1))), (1, .int (nI j)), (0, .ref b)]) hx hb d_Model_held_35 rfl hl (by decide) rfl (fun ls hl => ?_)
        refine lv_iinc (v := ((nI (i + 1)) + 1)) (lv' := [(3, .int ((nI (i + 1)) + 1)), (2, .int (nI k)), (1, .int (nI j)), (0, .ref b)]) hx hb d_Model_held_36 hl (k := 1) rfl rfl (by decide) rfl (fun ls hl => ?_)
        refine lv_goto (tgt := 4) hx hb d_Model_held_39 (by decide) ?_
        exact ih (i + 1) k ls (by omega) (by rw [hk]; exact (if_neg c1).symm) (by rw [nI_succ (i + 1)]; exact lv_sub hl [0, 1, 2, 3] rfl)
      · skip
        refine lv_iload_n hx hb d_Model_held_30 rfl (lv_at hl 0 rfl) ?_
        refine lv_goto (tgt := 35) hx hb d_Model_held_31 (by decide) ?_
        refine lv_istore_n (lv' := [(2, .int (nI (i + 1))), (3, .int (nI (i + 1))), (1, .int (nI j)), (0, .ref b)]) hx hb d_Model_held_35 rfl hl (by decide) rfl (fun ls hl => ?_)
        refine lv_iinc (v := ((nI (i + 1)) + 1)) (lv' := [(3, .int ((nI (i + 1)) + 1)), (2, .int (nI (i + 1))), (1, .int (nI j)), (0, .ref b)]) hx hb d_Model_held_36 hl (k := 1) rfl rfl (by decide) rfl (fun ls hl => ?_)
        refine lv_goto (tgt := 4) hx hb d_Model_held_39 (by decide) ?_
        exact ih (i + 1) (i + 1) ls (by omega) (show i + 1 = hd (g 6) j (i + 1) from (if_pos c1).symm) (by rw [nI_succ (i + 1)]; exact lv_sub hl [0, 1, 2, 3] rfl)
  exact loop n 0 0 ls (Nat.zero_add _).symm rfl (lv_sub hl [0, 1, 3, 2] rfl)

abbrev rm_Model_differ : Room := { frames := 0, cells := 0, slots := 0, locals := 0 }
set_option maxHeartbeats 4000000 in
set_option maxRecDepth 100000 in
theorem c_Model_differ {l : Launch} {D : va_G} {ca : Nat → ClassId} {f : wd_M} (b : Nat) (AD : Nat → Nat) (th mo : Int32) (n : Nat) (nw : Int64) (lt : Int32) (du : Nat → Int64) (g : Nat → Nat → Int32) (hm : rM f ca b AD th mo n nw lt du g) (i : Nat) (hi : i < n) : Met l y_Model_differ (.code y_Model_differ b_Model_differ 2 (some .boolean) :: tb) rm_Model_differ (va_Pc [.ref b, .int (nI (i + 1))] (wd_pre D classes (ty ca) f)) (vp_Si (zb (dff (g 4) (g 5) i))) 0 0 (fun _ => False) := by
  refine wd_Sz (own := R_Model) (by decide) rfl (Nat.le_of_ble_eq_true rfl) ?_
  intro p e s m args below meth c Q X hK hw ret ls hl
  have hx := X.1
  have hb := X.2.1
  have hown := X.2.2.2.1
  have hts := X.2.2.2.2
  have hl : lv_has ls 2 [(0, .ref b), (1, .int (nI (i + 1)))] := hl
  have hn : n ≤ 300 := hm.2.2.2.2
  refine lv_aload_n hx hb d_Model_differ_0 rfl (lv_at hl 0 rfl) ?_
  refine fg_Model_23 X hK hw hm.1 d_Model_differ_1 ?_
  refine lv_iload_n hx hb d_Model_differ_4 rfl (lv_at hl 1 rfl) ?_
  refine m_ld X hK hw hm (k := 4) (j := i + 1) (by decide) (by decide) rfl (by show i + 1 < 301; omega) d_Model_differ_5 ?_
  refine lv_iconst (v := 1) hx hb d_Model_differ_6 (by decide) ?_
  refine lv_icmp_le (tgt := 35) hx hb d_Model_differ_7 (by decide) (fun c1 => ?_) (fun c1 => ?_)
  · skip
    refine lv_iconst (v := 0) hx hb d_Model_differ_35 (by decide) ?_
    exact ret _ _ _ d_Model_differ_36 rfl (Or.inr ⟨fun h => h.1 c1, rfl⟩)
  · skip
    refine lv_aload_n hx hb d_Model_differ_10 rfl (lv_at hl 0 rfl) ?_
    refine fg_Model_26 X hK hw hm.1 d_Model_differ_11 ?_
    refine lv_iconst (v := 3) hx hb d_Model_differ_14 (by decide) ?_
    refine lv_iload_n hx hb d_Model_differ_15 rfl (lv_at hl 1 rfl) ?_
    refine lv_imul hx hb d_Model_differ_16 ?_
    rw [ix3 (i + 1)]
    refine m_ld X hK hw hm (k := 5) (j := 3 * (i + 1)) (by decide) (by decide) rfl (by show 3 * (i + 1) < 903; omega) d_Model_differ_17 ?_
    refine lv_aload_n hx hb d_Model_differ_18 rfl (lv_at hl 0 rfl) ?_
    refine fg_Model_26 X hK hw hm.1 d_Model_differ_19 ?_
    refine lv_iconst (v := 3) hx hb d_Model_differ_22 (by decide) ?_
    refine lv_iload_n hx hb d_Model_differ_23 rfl (lv_at hl 1 rfl) ?_
    refine lv_imul hx hb d_Model_differ_24 ?_
    refine lv_iconst (v := 1) hx hb d_Model_differ_25 (by decide) ?_
    refine lv_iadd hx hb d_Model_differ_26 ?_
    rw [ix31 (i + 1)]
    refine m_ld X hK hw hm (k := 5) (j := 3 * (i + 1) + 1) (by decide) (by decide) rfl (by show 3 * (i + 1) + 1 < 903; omega) d_Model_differ_27 ?_
    refine lv_icmp_eq (tgt := 35) hx hb d_Model_differ_28 (by decide) (fun c2 => ?_) (fun c2 => ?_)
    · skip
      refine lv_iconst (v := 0) hx hb d_Model_differ_35 (by decide) ?_
      exact ret _ _ _ d_Model_differ_36 rfl (Or.inr ⟨fun h => h.2 c2, rfl⟩)
    · skip
      refine lv_iconst (v := 1) hx hb d_Model_differ_31 (by decide) ?_
      refine lv_goto (tgt := 36) hx hb d_Model_differ_32 (by decide) ?_
      exact ret _ _ _ d_Model_differ_36 rfl (Or.inl ⟨⟨c1, c2⟩, rfl⟩)

abbrev rm_Model_isTaken : Room := { frames := 1, cells := 0, slots := 0, locals := 21 }
set_option maxHeartbeats 4000000 in
set_option maxRecDepth 100000 in
theorem c_Model_isTaken {l : Launch} {D : va_G} {ca : Nat → ClassId} {f : wd_M} (b : Nat) (AD : Nat → Nat) (th mo : Int32) (n : Nat) (nw : Int64) (lt : Int32) (du : Nat → Int64) (g : Nat → Nat → Int32) (hm : rM f ca b AD th mo n nw lt du g) (i : Nat) (hi : i < n) : Met l y_Model_isTaken (.code y_Model_isTaken b_Model_isTaken 4 (some .boolean) :: tb) rm_Model_isTaken (va_Pc [.ref b, .int (nI (i + 1))] (wd_pre D classes (ty ca) f)) (vp_Si (zb (tkn (g 4) (g 5) (g 6) i))) 0 0 (fun _ => False) := by
  refine wd_Sz (own := R_Model) (by decide) rfl (Nat.le_of_ble_eq_true rfl) ?_
  intro p e s m args below meth c Q X hK hw ret ls hl
  have hx := X.1
  have hb := X.2.1
  have hown := X.2.2.2.1
  have hts := X.2.2.2.2
  have hl : lv_has ls 4 [(0, .ref b), (1, .int (nI (i + 1)))] := hl
  have hn : n ≤ 300 := hm.2.2.2.2
  refine lv_aload_n hx hb d_Model_isTaken_0 rfl (lv_at hl 0 rfl) ?_
  refine fg_Model_23 X hK hw hm.1 d_Model_isTaken_1 ?_
  refine lv_iload_n hx hb d_Model_isTaken_4 rfl (lv_at hl 1 rfl) ?_
  refine m_ld X hK hw hm (k := 4) (j := i + 1) (by decide) (by decide) rfl (by show i + 1 < 301; omega) d_Model_isTaken_5 ?_
  refine lv_istore_n (lv' := [(2, .int (g 4 (i + 1))), (0, .ref b), (1, .int (nI (i + 1)))]) hx hb d_Model_isTaken_6 rfl hl (by decide) rfl (fun ls hl => ?_)
  refine lv_iconst (v := 0) hx hb d_Model_isTaken_7 (by decide) ?_
  refine lv_istore_n (lv' := [(3, .int 0), (2, .int (g 4 (i + 1))), (0, .ref b), (1, .int (nI (i + 1)))]) hx hb d_Model_isTaken_8 rfl hl (by decide) rfl (fun ls hl => ?_)
  have loop : ∀ (d mk : Nat) (k : Nat) (ls : Array Slot), 20 = mk + d → k = hc (g 6) i mk → lv_has ls 4 [(3, .int (nI mk)), (2, .int (g 4 (i + 1) + nI k)), (1, .int (nI (i + 1))), (0, .ref b)] → W p l e rm_Model_isTaken s m args below meth c s.heap [] 0 0 Q (F0 m 9 ls []) := by
    intro d
    induction d with
    | zero =>
      intro mk k ls hdd hk hl
      have hin : mk = 20 := by omega
      refine lv_iload_n hx hb d_Model_isTaken_9 rfl (lv_at hl 0 rfl) ?_
      refine lv_bipush (v := 20) hx hb d_Model_isTaken_10 (by decide) ?_
      refine lv_icmp_ge (tgt := 47) hx hb d_Model_isTaken_12 (by decide) (fun _ => ?_) (fun c => absurd (by rw [hin]; decide) c)
      refine lv_iload_n hx hb d_Model_isTaken_47 rfl (lv_at hl 1 rfl) ?_
      refine lv_aload_n hx hb d_Model_isTaken_48 rfl (lv_at hl 3 rfl) ?_
      refine lv_iload_n hx hb d_Model_isTaken_49 rfl (lv_at hl 2 rfl) ?_
      refine wd_cvi (As := [.int (nI (i + 1))]) (rest := [.int (g 4 (i + 1) + nI k)]) X hK hw (c_Model_differ b AD th mo n nw lt du g hm i hi) (cw_Model_83 hts rfl rfl ⟨(Nat.le_of_ble_eq_true rfl), (Nat.le_of_ble_eq_true rfl)⟩) hm.1 rfl rfl rfl hl.1 rfl (Nat.le_of_ble_eq_true rfl) d_Model_isTaken_50 ⟨(Nat.le_of_ble_eq_true rfl), (Nat.le_of_ble_eq_true rfl)⟩ (fun r hz => ?_)
      rcases hz with ⟨z1, rfl⟩ | ⟨z1, rfl⟩
      · skip
        refine lv_if_eq (tgt := 60) hx hb d_Model_isTaken_53 (by decide) (fun c2 => ?_) (fun c2 => ?_)
        · exact absurd c2 (by decide)
        · skip
          refine lv_iconst (v := 3) hx hb d_Model_isTaken_56 (by decide) ?_
          refine lv_goto (tgt := 61) hx hb d_Model_isTaken_57 (by decide) ?_
          refine lv_icmp_lt (tgt := 68) hx hb d_Model_isTaken_61 (by decide) (fun c3 => ?_) (fun c3 => ?_)
          · skip
            refine lv_iconst (v := 0) hx hb d_Model_isTaken_68 (by decide) ?_
            exact ret _ _ _ d_Model_isTaken_69 rfl (Or.inr ⟨by unfold tkn; rw [if_pos z1, ← hin, ← hk]; exact fun q => q c3, rfl⟩)
          · skip
            refine lv_iconst (v := 1) hx hb d_Model_isTaken_64 (by decide) ?_
            refine lv_goto (tgt := 69) hx hb d_Model_isTaken_65 (by decide) ?_
            exact ret _ _ _ d_Model_isTaken_69 rfl (Or.inl ⟨by unfold tkn; rw [if_pos z1, ← hin, ← hk]; exact c3, rfl⟩)
      · skip
        refine lv_if_eq (tgt := 60) hx hb d_Model_isTaken_53 (by decide) (fun c4 => ?_) (fun c4 => ?_)
        · skip
          refine lv_iconst (v := 2) hx hb d_Model_isTaken_60 (by decide) ?_
          refine lv_icmp_lt (tgt := 68) hx hb d_Model_isTaken_61 (by decide) (fun c5 => ?_) (fun c5 => ?_)
          · skip
            refine lv_iconst (v := 0) hx hb d_Model_isTaken_68 (by decide) ?_
            exact ret _ _ _ d_Model_isTaken_69 rfl (Or.inr ⟨by unfold tkn; rw [if_neg z1, ← hin, ← hk]; exact fun q => q c5, rfl⟩)
          · skip
            refine lv_iconst (v := 1) hx hb d_Model_isTaken_64 (by decide) ?_
            refine lv_goto (tgt := 69) hx hb d_Model_isTaken_65 (by decide) ?_
            exact ret _ _ _ d_Model_isTaken_69 rfl (Or.inl ⟨by unfold tkn; rw [if_neg z1, ← hin, ← hk]; exact c5, rfl⟩)
        · exact absurd c4 (by decide)
    | succ d ih =>
      intro mk k ls hdd hk hl
      have hin : mk < 20 := by omega
      refine lv_iload_n hx hb d_Model_isTaken_9 rfl (lv_at hl 0 rfl) ?_
      refine lv_bipush (v := 20) hx hb d_Model_isTaken_10 (by decide) ?_
      refine lv_icmp_ge (tgt := 47) hx hb d_Model_isTaken_12 (by decide) (fun c => absurd c (nI_ge hin (by decide))) (fun _ => ?_)
      refine lv_aload_n hx hb d_Model_isTaken_15 rfl (lv_at hl 3 rfl) ?_
      refine fg_Model_29 X hK hw hm.1 d_Model_isTaken_16 ?_
      refine lv_bipush (v := 20) hx hb d_Model_isTaken_19 (by decide) ?_
      refine lv_iload_n hx hb d_Model_isTaken_21 rfl (lv_at hl 2 rfl) ?_
      refine lv_imul hx hb d_Model_isTaken_22 ?_
      refine lv_iload_n hx hb d_Model_isTaken_23 rfl (lv_at hl 0 rfl) ?_
      refine lv_iadd hx hb d_Model_isTaken_24 ?_
      refine lv_bipush (v := 20) hx hb d_Model_isTaken_25 (by decide) ?_
      refine lv_isub hx hb d_Model_isTaken_27 ?_
      rw [ix20 i mk]
      refine m_ld X hK hw hm (k := 6) (j := 20 * i + mk) (by decide) (by decide) rfl (by show 20 * i + mk < 6020; omega) d_Model_isTaken_28 ?_
      refine lv_iconst (v := 2) hx hb d_Model_isTaken_29 (by decide) ?_
      refine lv_icmp_ne (tgt := 39) hx hb d_Model_isTaken_30 (by decide) (fun c6 => ?_) (fun c6 => ?_)
      · skip
        refine lv_iload_n hx hb d_Model_isTaken_39 rfl (lv_at hl 1 rfl) ?_
        refine lv_istore_n (lv' := [(2, .int (g 4 (i + 1) + nI k)), (3, .int (nI mk)), (1, .int (nI (i + 1))), (0, .ref b)]) hx hb d_Model_isTaken_40 rfl hl (by decide) rfl (fun ls hl => ?_)
        refine lv_iinc (v := ((nI mk) + 1)) (lv' := [(3, .int ((nI mk) + 1)), (2, .int (g 4 (i + 1) + nI k)), (1, .int (nI (i + 1))), (0, .ref b)]) hx hb d_Model_isTaken_41 hl (k := 1) rfl rfl (by decide) rfl (fun ls hl => ?_)
        refine lv_goto (tgt := 9) hx hb d_Model_isTaken_44 (by decide) ?_
        exact ih (mk + 1) k ls (by omega) (by rw [hk]; exact (if_neg c6).symm) (by rw [nI_succ mk]; exact lv_sub hl [0, 1, 2, 3] rfl)
      · skip
        refine lv_iload_n hx hb d_Model_isTaken_33 rfl (lv_at hl 1 rfl) ?_
        refine lv_iconst (v := 1) hx hb d_Model_isTaken_34 (by decide) ?_
        refine lv_iadd hx hb d_Model_isTaken_35 ?_
        refine lv_goto (tgt := 40) hx hb d_Model_isTaken_36 (by decide) ?_
        refine lv_istore_n (lv' := [(2, .int ((g 4 (i + 1) + nI k) + 1)), (3, .int (nI mk)), (1, .int (nI (i + 1))), (0, .ref b)]) hx hb d_Model_isTaken_40 rfl hl (by decide) rfl (fun ls hl => ?_)
        refine lv_iinc (v := ((nI mk) + 1)) (lv' := [(3, .int ((nI mk) + 1)), (2, .int ((g 4 (i + 1) + nI k) + 1)), (1, .int (nI (i + 1))), (0, .ref b)]) hx hb d_Model_isTaken_41 hl (k := 1) rfl rfl (by decide) rfl (fun ls hl => ?_)
        refine lv_goto (tgt := 9) hx hb d_Model_isTaken_44 (by decide) ?_
        exact ih (mk + 1) (k + 1) ls (by omega) (by rw [hk]; exact (if_pos c6).symm) (by rw [nI_succ mk, nI_succ k, ← Int32.add_assoc]; exact lv_sub hl [0, 1, 2, 3] rfl)
  exact loop 20 0 0 ls (Nat.zero_add _).symm rfl (by rw [add_n0]; exact lv_sub hl [0, 1, 3, 2] rfl)

abbrev rm_Model_stateOf : Room := { frames := 2, cells := 0, slots := 0, locals := 44 }
set_option maxHeartbeats 4000000 in
set_option maxRecDepth 100000 in
theorem c_Model_stateOf {l : Launch} {D : va_G} {ca : Nat → ClassId} {f : wd_M} (b : Nat) (AD : Nat → Nat) (th mo : Int32) (n : Nat) (nw : Int64) (lt : Int32) (du : Nat → Int64) (g : Nat → Nat → Int32) (hm : rM f ca b AD th mo n nw lt du g) (i : Nat) (hi : i < n) : Met l y_Model_stateOf (.code y_Model_stateOf b_Model_stateOf 2 (some .int) :: tb) rm_Model_stateOf (va_Pc [.ref b, .int (nI (i + 1))] (wd_pre D classes (ty ca) f)) (vp_Si (fun r => r = mst g i)) 0 0 (fun _ => False) := by
  refine wd_Si (own := R_Model) (by decide) rfl (Nat.le_of_ble_eq_true rfl) ?_
  intro p e s m args below meth c Q X hK hw ret ls hl
  have hx := X.1
  have hb := X.2.1
  have hown := X.2.2.2.1
  have hts := X.2.2.2.2
  have hl : lv_has ls 2 [(0, .ref b), (1, .int (nI (i + 1)))] := hl
  have hn : n ≤ 300 := hm.2.2.2.2
  refine lv_aload_n hx hb d_Model_stateOf_0 rfl (lv_at hl 0 rfl) ?_
  refine fg_Model_17 X hK hw hm.1 d_Model_stateOf_1 ?_
  refine lv_iload_n hx hb d_Model_stateOf_4 rfl (lv_at hl 1 rfl) ?_
  refine m_ld X hK hw hm (k := 2) (j := i + 1) (by decide) (by decide) rfl (by show i + 1 < 301; omega) d_Model_stateOf_5 ?_
  refine lv_if_eq (tgt := 18) hx hb d_Model_stateOf_6 (by decide) (fun c1 => ?_) (fun c1 => ?_)
  · skip
    refine lv_aload_n hx hb d_Model_stateOf_18 rfl (lv_at hl 0 rfl) ?_
    refine lv_iload_n hx hb d_Model_stateOf_19 rfl (lv_at hl 1 rfl) ?_
    refine wd_cvi (As := [.int (nI (i + 1))]) (rest := []) X hK hw (c_Model_isTaken b AD th mo n nw lt du g hm i hi) (cw_Model_87 hts rfl rfl ⟨(Nat.le_of_ble_eq_true rfl), (Nat.le_of_ble_eq_true rfl)⟩) hm.1 rfl rfl rfl hl.1 rfl (Nat.le_of_ble_eq_true rfl) d_Model_stateOf_20 ⟨(Nat.le_of_ble_eq_true rfl), (Nat.le_of_ble_eq_true rfl)⟩ (fun r hz => ?_)
    rcases hz with ⟨z2, rfl⟩ | ⟨z2, rfl⟩
    · skip
      refine lv_if_eq (tgt := 30) hx hb d_Model_stateOf_23 (by decide) (fun c3 => ?_) (fun c3 => ?_)
      · exact absurd c3 (by decide)
      · skip
        refine lv_iconst (v := 1) hx hb d_Model_stateOf_26 (by decide) ?_
        refine lv_goto (tgt := 31) hx hb d_Model_stateOf_27 (by decide) ?_
        exact ret _ _ _ d_Model_stateOf_31 (by rw [mst, if_pos c1, if_pos z2])
    · skip
      refine lv_if_eq (tgt := 30) hx hb d_Model_stateOf_23 (by decide) (fun c4 => ?_) (fun c4 => ?_)
      · skip
        refine lv_iconst (v := 0) hx hb d_Model_stateOf_30 (by decide) ?_
        exact ret _ _ _ d_Model_stateOf_31 (by rw [mst, if_pos c1, if_neg z2])
      · exact absurd c4 (by decide)
  · skip
    refine lv_aload_n hx hb d_Model_stateOf_9 rfl (lv_at hl 0 rfl) ?_
    refine fg_Model_17 X hK hw hm.1 d_Model_stateOf_10 ?_
    refine lv_iload_n hx hb d_Model_stateOf_13 rfl (lv_at hl 1 rfl) ?_
    refine m_ld X hK hw hm (k := 2) (j := i + 1) (by decide) (by decide) rfl (by show i + 1 < 301; omega) d_Model_stateOf_14 ?_
    refine lv_goto (tgt := 31) hx hb d_Model_stateOf_15 (by decide) ?_
    exact ret _ _ _ d_Model_stateOf_31 (by rw [mst, if_neg c1])

abbrev rm_Model_isFree : Room := { frames := 2, cells := 0, slots := 0, locals := 44 }
set_option maxHeartbeats 4000000 in
set_option maxRecDepth 100000 in
theorem c_Model_isFree {l : Launch} {D : va_G} {ca : Nat → ClassId} {f : wd_M} (b : Nat) (AD : Nat → Nat) (th mo : Int32) (n : Nat) (nw : Int64) (lt : Int32) (du : Nat → Int64) (g : Nat → Nat → Int32) (hm : rM f ca b AD th mo n nw lt du g) (i : Nat) (hi : i < n) (j : Nat) (hj : j < 20) : Met l y_Model_isFree (.code y_Model_isFree b_Model_isFree 6 (some .boolean) :: tb) rm_Model_isFree (va_Pc [.ref b, .int (nI (i + 1)), .int (nI j)] (wd_pre D classes (ty ca) f)) (vp_Si (zb (mfr g i j))) 0 0 (fun _ => False) := by
  refine wd_Sz (own := R_Model) (by decide) rfl (Nat.le_of_ble_eq_true rfl) ?_
  intro p e s m args below meth c Q X hK hw ret ls hl
  have hx := X.1
  have hb := X.2.1
  have hown := X.2.2.2.1
  have hts := X.2.2.2.2
  have hl : lv_has ls 6 [(0, .ref b), (1, .int (nI (i + 1))), (2, .int (nI j))] := hl
  have hn : n ≤ 300 := hm.2.2.2.2
  refine lv_aload_n hx hb d_Model_isFree_0 rfl (lv_at hl 0 rfl) ?_
  refine fg_Model_17 X hK hw hm.1 d_Model_isFree_1 ?_
  refine lv_iload_n hx hb d_Model_isFree_4 rfl (lv_at hl 1 rfl) ?_
  refine m_ld X hK hw hm (k := 2) (j := i + 1) (by decide) (by decide) rfl (by show i + 1 < 301; omega) d_Model_isFree_5 ?_
  refine lv_if_ne (tgt := 49) hx hb d_Model_isFree_6 (by decide) (fun c1 => ?_) (fun c1 => ?_)
  · skip
    refine lv_iconst (v := 0) hx hb d_Model_isFree_49 (by decide) ?_
    exact ret _ _ _ d_Model_isFree_50 rfl (Or.inr ⟨fun h => c1 h.1.1.1.1, rfl⟩)
  · skip
    refine lv_aload_n hx hb d_Model_isFree_9 rfl (lv_at hl 0 rfl) ?_
    refine lv_iload_n hx hb d_Model_isFree_10 rfl (lv_at hl 1 rfl) ?_
    refine wd_cvi (As := [.int (nI (i + 1))]) (rest := []) X hK hw (c_Model_isTaken b AD th mo n nw lt du g hm i hi) (cw_Model_87 hts rfl rfl ⟨(Nat.le_of_ble_eq_true rfl), (Nat.le_of_ble_eq_true rfl)⟩) hm.1 rfl rfl rfl hl.1 rfl (Nat.le_of_ble_eq_true rfl) d_Model_isFree_11 ⟨(Nat.le_of_ble_eq_true rfl), (Nat.le_of_ble_eq_true rfl)⟩ (fun r hz => ?_)
    rcases hz with ⟨z2, rfl⟩ | ⟨z2, rfl⟩
    · skip
      refine lv_if_ne (tgt := 49) hx hb d_Model_isFree_14 (by decide) (fun c3 => ?_) (fun c3 => ?_)
      · skip
        refine lv_iconst (v := 0) hx hb d_Model_isFree_49 (by decide) ?_
        exact ret _ _ _ d_Model_isFree_50 rfl (Or.inr ⟨fun h => h.1.1.1.2 z2, rfl⟩)
      · exact absurd c3 (by decide)
    · skip
      refine lv_if_ne (tgt := 49) hx hb d_Model_isFree_14 (by decide) (fun c4 => ?_) (fun c4 => ?_)
      · exact absurd c4 (by decide)
      · skip
        refine lv_aload_n hx hb d_Model_isFree_17 rfl (lv_at hl 0 rfl) ?_
        refine fg_Model_13 X hK hw hm.1 d_Model_isFree_18 ?_
        refine lv_iload_n hx hb d_Model_isFree_21 rfl (lv_at hl 1 rfl) ?_
        refine m_ld X hK hw hm (k := 1) (j := i + 1) (by decide) (by decide) rfl (by show i + 1 < 301; omega) d_Model_isFree_22 ?_
        refine lv_aload_n hx hb d_Model_isFree_23 rfl (lv_at hl 0 rfl) ?_
        refine fg_Model_45 X hK hw hm.1 d_Model_isFree_24 ?_
        refine lv_iload_n hx hb d_Model_isFree_27 rfl (lv_at hl 2 rfl) ?_
        refine m_ld X hK hw hm (k := 11) (j := j) (by decide) (by decide) rfl (by show j < 20; omega) d_Model_isFree_28 ?_
        refine lv_icmp_gt (tgt := 49) hx hb d_Model_isFree_29 (by decide) (fun c5 => ?_) (fun c5 => ?_)
        · skip
          refine lv_iconst (v := 0) hx hb d_Model_isFree_49 (by decide) ?_
          exact ret _ _ _ d_Model_isFree_50 rfl (Or.inr ⟨fun h => h.1.1.2 c5, rfl⟩)
        · skip
          refine lv_aload_n hx hb d_Model_isFree_32 rfl (lv_at hl 0 rfl) ?_
          refine fg_Model_29 X hK hw hm.1 d_Model_isFree_33 ?_
          refine lv_bipush (v := 20) hx hb d_Model_isFree_36 (by decide) ?_
          refine lv_iload_n hx hb d_Model_isFree_38 rfl (lv_at hl 1 rfl) ?_
          refine lv_imul hx hb d_Model_isFree_39 ?_
          refine lv_iload_n hx hb d_Model_isFree_40 rfl (lv_at hl 2 rfl) ?_
          refine lv_iadd hx hb d_Model_isFree_41 ?_
          refine lv_bipush (v := 20) hx hb d_Model_isFree_42 (by decide) ?_
          refine lv_isub hx hb d_Model_isFree_44 ?_
          rw [ix20 i j]
          refine m_ld X hK hw hm (k := 6) (j := 20 * i + j) (by decide) (by decide) rfl (by show 20 * i + j < 6020; omega) d_Model_isFree_45 ?_
          refine lv_if_eq (tgt := 51) hx hb d_Model_isFree_46 (by decide) (fun c6 => ?_) (fun c6 => ?_)
          · skip
            refine lv_iconst (v := 1) hx hb d_Model_isFree_51 (by decide) ?_
            refine lv_istore_n (lv' := [(3, .int 1), (0, .ref b), (1, .int (nI (i + 1))), (2, .int (nI j))]) hx hb d_Model_isFree_52 rfl hl (by decide) rfl (fun ls hl => ?_)
            refine lv_iconst (v := 0) hx hb d_Model_isFree_53 (by decide) ?_
            refine lv_istore (lv' := [(4, .int 0), (3, .int 1), (0, .ref b), (1, .int (nI (i + 1))), (2, .int (nI j))]) hx hb d_Model_isFree_54 hl (by decide) rfl (fun ls hl => ?_)
            have loop : ∀ (d mk : Nat) (bb : Bool) (ls : Array Slot), 20 = mk + d → bb = aln (g 6) (g 7) (g 10 j) i mk → lv_has ls 6 [(4, .int (nI mk)), (3, .int (zi bb)), (1, .int (nI (i + 1))), (2, .int (nI j)), (0, .ref b)] → W p l e rm_Model_isFree s m args below meth c s.heap [] 0 0 Q (F0 m 56 ls []) := by
              intro d
              induction d with
              | zero =>
                intro mk bb ls hdd hbb hl
                have hin : mk = 20 := by omega
                refine lv_iload hx hb d_Model_isFree_56 (lv_at hl 0 rfl) ?_
                refine lv_bipush (v := 20) hx hb d_Model_isFree_58 (by decide) ?_
                refine lv_icmp_ge (tgt := 118) hx hb d_Model_isFree_60 (by decide) (fun _ => ?_) (fun c => absurd (by rw [hin]; decide) c)
                cases bb with
                | false =>
                  have hl : lv_has ls 6 [(4, .int (nI mk)), (3, .int 0), (1, .int (nI (i + 1))), (2, .int (nI j)), (0, .ref b)] := hl
                  refine lv_iload_n hx hb d_Model_isFree_118 rfl (lv_at hl 1 rfl) ?_
                  refine lv_if_ne (tgt := 130) hx hb d_Model_isFree_119 (by decide) (fun c7 => ?_) (fun c7 => ?_)
                  · exact absurd c7 (by decide)
                  · skip
                    refine lv_aload_n hx hb d_Model_isFree_122 rfl (lv_at hl 4 rfl) ?_
                    refine lv_iload_n hx hb d_Model_isFree_123 rfl (lv_at hl 2 rfl) ?_
                    refine wd_cvi (As := [.int (nI (i + 1))]) (rest := []) X hK hw (c_Model_differ b AD th mo n nw lt du g hm i hi) (cw_Model_83 hts rfl rfl ⟨(Nat.le_of_ble_eq_true rfl), (Nat.le_of_ble_eq_true rfl)⟩) hm.1 rfl rfl rfl hl.1 rfl (Nat.le_of_ble_eq_true rfl) d_Model_isFree_124 ⟨(Nat.le_of_ble_eq_true rfl), (Nat.le_of_ble_eq_true rfl)⟩ (fun r hz => ?_)
                    rcases hz with ⟨z8, rfl⟩ | ⟨z8, rfl⟩
                    · skip
                      refine lv_if_eq (tgt := 134) hx hb d_Model_isFree_127 (by decide) (fun c9 => ?_) (fun c9 => ?_)
                      · exact absurd c9 (by decide)
                      · skip
                        refine lv_iconst (v := 1) hx hb d_Model_isFree_130 (by decide) ?_
                        refine lv_goto (tgt := 135) hx hb d_Model_isFree_131 (by decide) ?_
                        exact ret _ _ _ d_Model_isFree_135 rfl (Or.inl ⟨⟨⟨⟨⟨c1, z2⟩, c5⟩, c6⟩, Or.inr z8⟩, rfl⟩)
                    · skip
                      refine lv_if_eq (tgt := 134) hx hb d_Model_isFree_127 (by decide) (fun c10 => ?_) (fun c10 => ?_)
                      · skip
                        refine lv_iconst (v := 0) hx hb d_Model_isFree_134 (by decide) ?_
                        exact ret _ _ _ d_Model_isFree_135 rfl (Or.inr ⟨fun h => Or.elim h.2 (fun q => by rw [← hin, ← hbb] at q; cases q) z8, rfl⟩)
                      · exact absurd c10 (by decide)
                | true =>
                  have hl : lv_has ls 6 [(4, .int (nI mk)), (3, .int 1), (1, .int (nI (i + 1))), (2, .int (nI j)), (0, .ref b)] := hl
                  refine lv_iload_n hx hb d_Model_isFree_118 rfl (lv_at hl 1 rfl) ?_
                  refine lv_if_ne (tgt := 130) hx hb d_Model_isFree_119 (by decide) (fun c11 => ?_) (fun c11 => ?_)
                  · skip
                    refine lv_iconst (v := 1) hx hb d_Model_isFree_130 (by decide) ?_
                    refine lv_goto (tgt := 135) hx hb d_Model_isFree_131 (by decide) ?_
                    exact ret _ _ _ d_Model_isFree_135 rfl (Or.inl ⟨⟨⟨⟨⟨c1, z2⟩, c5⟩, c6⟩, Or.inl (by rw [← hin, ← hbb])⟩, rfl⟩)
                  · exact absurd c11 (by decide)
              | succ d ih =>
                intro mk bb ls hdd hbb hl
                have hin : mk < 20 := by omega
                refine lv_iload hx hb d_Model_isFree_56 (lv_at hl 0 rfl) ?_
                refine lv_bipush (v := 20) hx hb d_Model_isFree_58 (by decide) ?_
                refine lv_icmp_ge (tgt := 118) hx hb d_Model_isFree_60 (by decide) (fun c => absurd c (nI_ge hin (by decide))) (fun _ => ?_)
                cases bb with
                | false =>
                  have hl : lv_has ls 6 [(4, .int (nI mk)), (3, .int 0), (1, .int (nI (i + 1))), (2, .int (nI j)), (0, .ref b)] := hl
                  refine lv_bipush (v := 20) hx hb d_Model_isFree_63 (by decide) ?_
                  refine lv_iload_n hx hb d_Model_isFree_65 rfl (lv_at hl 2 rfl) ?_
                  refine lv_imul hx hb d_Model_isFree_66 ?_
                  refine lv_iload hx hb d_Model_isFree_67 (lv_at hl 0 rfl) ?_
                  refine lv_iadd hx hb d_Model_isFree_69 ?_
                  refine lv_bipush (v := 20) hx hb d_Model_isFree_70 (by decide) ?_
                  refine lv_isub hx hb d_Model_isFree_72 ?_
                  refine lv_istore (lv' := [(5, .int (((20 * (nI (i + 1))) + (nI mk)) - 20)), (4, .int (nI mk)), (3, .int 0), (1, .int (nI (i + 1))), (2, .int (nI j)), (0, .ref b)]) hx hb d_Model_isFree_73 hl (by decide) rfl (fun ls hl => ?_)
                  refine lv_iload_n hx hb d_Model_isFree_75 rfl (lv_at hl 2 rfl) ?_
                  refine lv_if_eq (tgt := 110) hx hb d_Model_isFree_76 (by decide) (fun c12 => ?_) (fun c12 => ?_)
                  · skip
                    refine lv_iconst (v := 0) hx hb d_Model_isFree_110 (by decide) ?_
                    refine lv_istore_n (lv' := [(3, .int 0), (5, .int (((20 * (nI (i + 1))) + (nI mk)) - 20)), (4, .int (nI mk)), (1, .int (nI (i + 1))), (2, .int (nI j)), (0, .ref b)]) hx hb d_Model_isFree_111 rfl hl (by decide) rfl (fun ls hl => ?_)
                    refine lv_iinc (v := ((nI mk) + 1)) (lv' := [(4, .int ((nI mk) + 1)), (3, .int 0), (5, .int (((20 * (nI (i + 1))) + (nI mk)) - 20)), (1, .int (nI (i + 1))), (2, .int (nI j)), (0, .ref b)]) hx hb d_Model_isFree_112 hl (k := 2) rfl rfl (by decide) rfl (fun ls hl => ?_)
                    refine lv_goto (tgt := 56) hx hb d_Model_isFree_115 (by decide) ?_
                    exact ih (mk + 1) false ls (by omega) (by simp [aln, ← hbb]) (by rw [nI_succ mk]; exact lv_sub hl [0, 1, 3, 4, 5] rfl)
                  · exact absurd c12 (by decide)
                | true =>
                  have hl : lv_has ls 6 [(4, .int (nI mk)), (3, .int 1), (1, .int (nI (i + 1))), (2, .int (nI j)), (0, .ref b)] := hl
                  refine lv_bipush (v := 20) hx hb d_Model_isFree_63 (by decide) ?_
                  refine lv_iload_n hx hb d_Model_isFree_65 rfl (lv_at hl 2 rfl) ?_
                  refine lv_imul hx hb d_Model_isFree_66 ?_
                  refine lv_iload hx hb d_Model_isFree_67 (lv_at hl 0 rfl) ?_
                  refine lv_iadd hx hb d_Model_isFree_69 ?_
                  refine lv_bipush (v := 20) hx hb d_Model_isFree_70 (by decide) ?_
                  refine lv_isub hx hb d_Model_isFree_72 ?_
                  refine lv_istore (lv' := [(5, .int (((20 * (nI (i + 1))) + (nI mk)) - 20)), (4, .int (nI mk)), (3, .int 1), (1, .int (nI (i + 1))), (2, .int (nI j)), (0, .ref b)]) hx hb d_Model_isFree_73 hl (by decide) rfl (fun ls hl => ?_)
                  refine lv_iload_n hx hb d_Model_isFree_75 rfl (lv_at hl 2 rfl) ?_
                  refine lv_if_eq (tgt := 110) hx hb d_Model_isFree_76 (by decide) (fun c13 => ?_) (fun c13 => ?_)
                  · exact absurd c13 (by decide)
                  · skip
                    refine lv_aload_n hx hb d_Model_isFree_79 rfl (lv_at hl 5 rfl) ?_
                    refine fg_Model_29 X hK hw hm.1 d_Model_isFree_80 ?_
                    refine lv_iload hx hb d_Model_isFree_83 (lv_at hl 0 rfl) ?_
                    rw [ix20 i mk]
                    refine m_ld X hK hw hm (k := 6) (j := 20 * i + mk) (by decide) (by decide) rfl (by show 20 * i + mk < 6020; omega) d_Model_isFree_85 ?_
                    refine lv_iconst (v := 1) hx hb d_Model_isFree_86 (by decide) ?_
                    refine lv_icmp_le (tgt := 106) hx hb d_Model_isFree_87 (by decide) (fun c14 => ?_) (fun c14 => ?_)
                    · skip
                      refine lv_iconst (v := 1) hx hb d_Model_isFree_106 (by decide) ?_
                      refine lv_goto (tgt := 111) hx hb d_Model_isFree_107 (by decide) ?_
                      refine lv_istore_n (lv' := [(3, .int 1), (5, .int (((20 * (nI (i + 1))) + (nI mk)) - 20)), (4, .int (nI mk)), (1, .int (nI (i + 1))), (2, .int (nI j)), (0, .ref b)]) hx hb d_Model_isFree_111 rfl hl (by decide) rfl (fun ls hl => ?_)
                      refine lv_iinc (v := ((nI mk) + 1)) (lv' := [(4, .int ((nI mk) + 1)), (3, .int 1), (5, .int (((20 * (nI (i + 1))) + (nI mk)) - 20)), (1, .int (nI (i + 1))), (2, .int (nI j)), (0, .ref b)]) hx hb d_Model_isFree_112 hl (k := 2) rfl rfl (by decide) rfl (fun ls hl => ?_)
                      refine lv_goto (tgt := 56) hx hb d_Model_isFree_115 (by decide) ?_
                      exact ih (mk + 1) true ls (by omega) (by simp [aln, ← hbb, c14]) (by rw [nI_succ mk]; exact lv_sub hl [0, 1, 3, 4, 5] rfl)
                    · skip
                      refine lv_aload_n hx hb d_Model_isFree_90 rfl (lv_at hl 5 rfl) ?_
                      refine fg_Model_32 X hK hw hm.1 d_Model_isFree_91 ?_
                      refine lv_iload hx hb d_Model_isFree_94 (lv_at hl 0 rfl) ?_
                      rw [ix20 i mk]
                      refine m_ld X hK hw hm (k := 7) (j := 20 * i + mk) (by decide) (by decide) rfl (by show 20 * i + mk < 6020; omega) d_Model_isFree_96 ?_
                      refine lv_aload_n hx hb d_Model_isFree_97 rfl (lv_at hl 5 rfl) ?_
                      refine fg_Model_42 X hK hw hm.1 d_Model_isFree_98 ?_
                      refine lv_iload_n hx hb d_Model_isFree_101 rfl (lv_at hl 4 rfl) ?_
                      refine m_ld X hK hw hm (k := 10) (j := j) (by decide) (by decide) rfl (by show j < 20; omega) d_Model_isFree_102 ?_
                      refine lv_icmp_eq (tgt := 110) hx hb d_Model_isFree_103 (by decide) (fun c15 => ?_) (fun c15 => ?_)
                      · skip
                        refine lv_iconst (v := 0) hx hb d_Model_isFree_110 (by decide) ?_
                        refine lv_istore_n (lv' := [(3, .int 0), (5, .int (((20 * (nI (i + 1))) + (nI mk)) - 20)), (4, .int (nI mk)), (1, .int (nI (i + 1))), (2, .int (nI j)), (0, .ref b)]) hx hb d_Model_isFree_111 rfl hl (by decide) rfl (fun ls hl => ?_)
                        refine lv_iinc (v := ((nI mk) + 1)) (lv' := [(4, .int ((nI mk) + 1)), (3, .int 0), (5, .int (((20 * (nI (i + 1))) + (nI mk)) - 20)), (1, .int (nI (i + 1))), (2, .int (nI j)), (0, .ref b)]) hx hb d_Model_isFree_112 hl (k := 2) rfl rfl (by decide) rfl (fun ls hl => ?_)
                        refine lv_goto (tgt := 56) hx hb d_Model_isFree_115 (by decide) ?_
                        exact ih (mk + 1) false ls (by omega) (by simp [aln, ← hbb, c14, c15]) (by rw [nI_succ mk]; exact lv_sub hl [0, 1, 3, 4, 5] rfl)
                      · skip
                        refine lv_iconst (v := 1) hx hb d_Model_isFree_106 (by decide) ?_
                        refine lv_goto (tgt := 111) hx hb d_Model_isFree_107 (by decide) ?_
                        refine lv_istore_n (lv' := [(3, .int 1), (5, .int (((20 * (nI (i + 1))) + (nI mk)) - 20)), (4, .int (nI mk)), (1, .int (nI (i + 1))), (2, .int (nI j)), (0, .ref b)]) hx hb d_Model_isFree_111 rfl hl (by decide) rfl (fun ls hl => ?_)
                        refine lv_iinc (v := ((nI mk) + 1)) (lv' := [(4, .int ((nI mk) + 1)), (3, .int 1), (5, .int (((20 * (nI (i + 1))) + (nI mk)) - 20)), (1, .int (nI (i + 1))), (2, .int (nI j)), (0, .ref b)]) hx hb d_Model_isFree_112 hl (k := 2) rfl rfl (by decide) rfl (fun ls hl => ?_)
                        refine lv_goto (tgt := 56) hx hb d_Model_isFree_115 (by decide) ?_
                        exact ih (mk + 1) true ls (by omega) (by simp [aln, ← hbb, c14, c15]) (by rw [nI_succ mk]; exact lv_sub hl [0, 1, 3, 4, 5] rfl)
            exact loop 20 0 true ls (Nat.zero_add _).symm rfl (lv_sub hl [0, 1, 3, 4, 2] rfl)
          · skip
            refine lv_iconst (v := 0) hx hb d_Model_isFree_49 (by decide) ?_
            exact ret _ _ _ d_Model_isFree_50 rfl (Or.inr ⟨fun h => c6 h.1.2, rfl⟩)
end
section
section MSP
variable {g : Nat → Nat → Int32} {t : Int64} {du : Nat → Int64} {i : Nat}
theorem rd_e : va_up g 2 (mE t du (g 2) i) 2 (i + 1) = g 2 (i + 1) := by
  rw [show va_up g 2 (mE t du (g 2) i) 2 = mE t du (g 2) i by simp [va_up]]
  exact mE_gt (Nat.lt_succ_self i)
theorem vu_same {k : Nat} {u : Nat → Int32} : va_up g k u k = u := by simp [va_up]
theorem vu_ne {k j : Nat} {u : Nat → Int32} (h : j ≠ k) : va_up g k u j = g j := by simp [va_up, h]
theorem vu_vu {k : Nat} {u w : Nat → Int32} : va_up (va_up g k u) k w = va_up g k w := by
  funext x
  by_cases h : x = k <;> simp [va_up, h]
theorem up_e (c : g 2 (i + 1) = 0 ∧ du (i + 1) < t) : va_up (va_up g 2 (mE t du (g 2) i)) 2 (upd (va_up g 2 (mE t du (g 2) i) 2) (i + 1) 4) = va_up g 2 (mE t du (g 2) (i + 1)) := by
  rw [vu_vu, vu_same, mE_yes c]
theorem up_0 : va_up g 2 (mE t du (g 2) 0) = g := by
  rw [mE_0]
  funext x
  by_cases h : x = 2
  · subst h; simp [va_up]
  · simp [va_up, h]
end MSP
/-- is one of the first k entries of picture i like x -/
def bl (e : Nat → Int32) (i : Nat) (x : Int32) : Nat → Bool
  | 0 => false
  | m + 1 => bl e i x m || decide (e (3 * (i + 1) + m) = x)
theorem nI_le0 {q : Nat} (hq : q < 2 ^ 31) : nI q ≤ 0 ↔ q = 0 := by
  rw [show (0 : Int32) = nI 0 from rfl, nI_leI hq (by decide)]
  omega
theorem nI_is0 {q : Nat} (hq : q < 2 ^ 31) : nI q = 0 ↔ q = 0 := by
  rw [show (0 : Int32) = nI 0 from rfl, nI_eq hq (by decide)]
theorem mbs_le {du : Nat → Int64} {F : Nat → Bool} {n : Nat} : ∀ d : Nat, mbs du F n d ≤ n := by
  intro d
  induction d with
  | zero => exact Nat.zero_le n
  | succ d ih =>
    unfold mbs
    split
    · omega
    · exact ih
theorem mbs_t {du : Nat → Int64} {F : Nat → Bool} {n q k : Nat} (hq : q < n) (hk : k = mbs du F n (n - (q + 1))) (hF : F q = true) (hc : k = 0 ∨ ¬ du k < du (q + 1)) : q + 1 = mbs du F n (n - q) := by
  have e : n - q = (n - (q + 1)) + 1 := by omega
  rw [e]
  unfold mbs
  rw [← hk, show n - (n - (q + 1)) - 1 = q by omega, show n - (n - (q + 1)) = q + 1 by omega, if_pos ⟨hF, hc⟩]
theorem mbs_f {du : Nat → Int64} {F : Nat → Bool} {n q k : Nat} (hq : q < n) (hk : k = mbs du F n (n - (q + 1))) (hF : ¬ (F q = true ∧ (k = 0 ∨ ¬ du k < du (q + 1)))) : k = mbs du F n (n - q) := by
  have e : n - q = (n - (q + 1)) + 1 := by omega
  rw [e]
  unfold mbs
  rw [← hk, show n - (n - (q + 1)) - 1 = q by omega, show n - (n - (q + 1)) = q + 1 by omega, if_neg hF]
def mgB (s : Nat → Int32) (x y : Nat) (sd : Int32) : Nat → Nat
  | 0 => 0
  | i + 1 => if (¬ s (20 * i + x) < 0 ∧ ¬ s (20 * i + y) < 0) ∧ (sd = 1 ∨ s (20 * i + x) = s (20 * i + y)) then mgB s x y sd i + 1 else mgB s x y sd i
theorem hd_le {d : Nat → Int32} {j : Nat} : ∀ n : Nat, hd d j n ≤ n := by
  intro n
  induction n with
  | zero => exact Nat.zero_le 0
  | succ n ih =>
    unfold hd
    split
    · exact Nat.le_refl _
    · omega
theorem hd_lt {d : Nat → Int32} {j n : Nat} (h : n ≤ 300) : hd d j n < 2 ^ 31 := by
  have := hd_le (d := d) (j := j) n
  omega
theorem okN_of {x : Int32} {n : Nat} (hn : n ≤ 300) (h1 : ¬ x < 1) (h2 : ¬ nI n < x) : ∃ i : Nat, i < n ∧ x = nI (i + 1) := by
  have h3 : ¬ 300 < x := fun q => h2 (by
    have h4 : nI n ≤ nI 300 := nI_le hn (by decide)
    rw [Int32.le_iff_toInt_le] at h4
    rw [Int32.lt_iff_toInt_lt] at q ⊢
    have e : (300 : Int32).toInt = (nI 300).toInt := rfl
    omega)
  obtain ⟨i, hi, rfl⟩ := ok300 h1 h3
  refine ⟨i, ?_, rfl⟩
  rw [nI_ltI (by omega) (by omega)] at h2
  omega
end
section
abbrev rm_Model_pass : Room := { frames := 0, cells := 0, slots := 0, locals := 0 }
set_option maxHeartbeats 4000000 in
set_option maxRecDepth 100000 in
theorem c_Model_pass {l : Launch} {D : va_G} {ca : Nat → ClassId} {f : wd_M} {sz : Nat} (b : Nat) (AD : Nat → Nat) (th mo : Int32) (n : Nat) (nw : Int64) (lt : Int32) (du : Nat → Int64) (g : Nat → Nat → Int32) (hm : rM f ca b AD th mo n nw lt du g) (t : Int64) : Met l y_Model_pass (.code y_Model_pass b_Model_pass 4 none :: tb) rm_Model_pass (va_Pc [.ref b, .long t] (wd_preZ D classes (ty ca) f sz)) (va_Qv (fun f' => rM f' ca b AD th mo n t (lt + nI (mC t du (g 2) n)) du (va_up g 2 (mE t du (g 2) n))) (wd_B D classes f sz) (wd_A f sz)) 0 0 (wd_A f sz) := by
  refine wd_Qv (own := R_Model) (by decide) rfl (Nat.le_of_ble_eq_true rfl) ?_
  intro p e s m args below meth c Q X hK hnm hw ret ls hl
  have hx := X.1
  have hb := X.2.1
  have hown := X.2.2.2.1
  have hts := X.2.2.2.2
  have hl : lv_has ls 4 [(0, .ref b), (1, .long t)] := hl
  have hn : n ≤ 300 := hm.2.2.2.2
  refine lv_aload_n hx hb d_Model_pass_0 rfl (lv_at hl 0 rfl) ?_
  refine lv_lload_n hx hb d_Model_pass_1 rfl (lv_at hl 1 rfl) ?_
  refine fp_Model_64 X hK hw hm.1 rfl rfl d_Model_pass_2 (fun f1 H locs ef1 hw => ?_)
  have hm : rM f1 ca b AD th mo n t lt du g := rM_obj hm ef1 hm.2.2.2.2
  refine lv_iconst (v := 1) hx hb d_Model_pass_5 (by decide) ?_
  refine lv_istore_n (lv' := [(3, .int 1), (0, .ref b), (1, .long t)]) hx hb d_Model_pass_6 rfl hl (by decide) rfl (fun ls hl => ?_)
  have loop : ∀ (d i : Nat) (k : Nat) (f1 : wd_M) (H : Heap) (locs : List Loc) (ls : Array Slot), n = i + d → wd_I D classes (wd_A f s.heap.size) s.heap f1 H locs → k = mC t du (g 2) i → rM f1 ca b AD th mo n t (lt + nI k) du (va_up g 2 (mE t du (g 2) i)) → lv_has ls 4 [(3, .int (nI (i + 1))), (1, .long t), (0, .ref b)] → W p l e rm_Model_pass s m args below meth c H locs 0 0 Q (F0 m 7 ls []) := by
    intro d
    induction d with
    | zero =>
      intro i k f1 H locs ls hdd hw hk hm hl
      have hin : i = n := by omega
      refine lv_iload_n hx hb d_Model_pass_7 rfl (lv_at hl 0 rfl) ?_
      refine lv_aload_n hx hb d_Model_pass_8 rfl (lv_at hl 2 rfl) ?_
      refine fg_Model_55 X hK hw hm.1 d_Model_pass_9 ?_
      refine lv_icmp_gt (tgt := 58) hx hb d_Model_pass_12 (by decide) (fun _ => ?_) (fun c => absurd (nI_lt (by omega) (by omega)) c)
      exact ret _ _ _ _ _ d_Model_pass_58 hw (by subst hin; rw [hk] at hm; exact hm)
    | succ d ih =>
      intro i k f1 H locs ls hdd hw hk hm hl
      have hin : i < n := by omega
      refine lv_iload_n hx hb d_Model_pass_7 rfl (lv_at hl 0 rfl) ?_
      refine lv_aload_n hx hb d_Model_pass_8 rfl (lv_at hl 2 rfl) ?_
      refine fg_Model_55 X hK hw hm.1 d_Model_pass_9 ?_
      refine lv_icmp_gt (tgt := 58) hx hb d_Model_pass_12 (by decide) (fun c => absurd c (nI_nlt (by omega) (by omega))) (fun _ => ?_)
      refine lv_aload_n hx hb d_Model_pass_15 rfl (lv_at hl 2 rfl) ?_
      refine fg_Model_17 X hK hw hm.1 d_Model_pass_16 ?_
      refine lv_iload_n hx hb d_Model_pass_19 rfl (lv_at hl 0 rfl) ?_
      refine m_ld X hK hw hm (k := 2) (j := i + 1) (by decide) (by decide) rfl (by show i + 1 < 301; omega) d_Model_pass_20 ?_
      rw [rd_e]
      refine lv_if_ne (tgt := 52) hx hb d_Model_pass_21 (by decide) (fun c2 => ?_) (fun c2 => ?_)
      · skip
        refine lv_iinc (v := ((nI (i + 1)) + 1)) (lv' := [(3, .int ((nI (i + 1)) + 1)), (1, .long t), (0, .ref b)]) hx hb d_Model_pass_52 hl (k := 0) rfl rfl (by decide) rfl (fun ls hl => ?_)
        refine lv_goto (tgt := 7) hx hb d_Model_pass_55 (by decide) ?_
        exact ih (i + 1) k f1 _ _ ls (by omega) hw (by rw [hk]; exact (if_neg (fun q => c2 q.1)).symm) (by rw [mE_no (fun q => c2 q.1)]; exact hm) (by rw [nI_succ (i + 1)]; exact lv_sub hl [0, 1, 2] rfl)
      · skip
        refine lv_aload_n hx hb d_Model_pass_24 rfl (lv_at hl 2 rfl) ?_
        refine fg_Model_7 X hK hw hm.1 d_Model_pass_25 ?_
        refine lv_iload_n hx hb d_Model_pass_28 rfl (lv_at hl 0 rfl) ?_
        refine m_ldl X hK hw hm (j := i + 1) (by omega) d_Model_pass_29 ?_
        refine lv_lload_n hx hb d_Model_pass_30 rfl (lv_at hl 1 rfl) ?_
        refine W.lcmp hx hb d_Model_pass_31 ?_
        refine lv_if_ge (tgt := 52) hx hb d_Model_pass_32 (by decide) (fun c3 => ?_) (fun c3 => ?_)
        · skip
          refine lv_iinc (v := ((nI (i + 1)) + 1)) (lv' := [(3, .int ((nI (i + 1)) + 1)), (1, .long t), (0, .ref b)]) hx hb d_Model_pass_52 hl (k := 0) rfl rfl (by decide) rfl (fun ls hl => ?_)
          refine lv_goto (tgt := 7) hx hb d_Model_pass_55 (by decide) ?_
          exact ih (i + 1) k f1 _ _ ls (by omega) hw (by rw [hk]; exact (if_neg (fun q => cmp_ge c3 q.2)).symm) (by rw [mE_no (fun q => cmp_ge c3 q.2)]; exact hm) (by rw [nI_succ (i + 1)]; exact lv_sub hl [0, 1, 2] rfl)
        · skip
          refine lv_aload_n hx hb d_Model_pass_35 rfl (lv_at hl 2 rfl) ?_
          refine fg_Model_17 X hK hw hm.1 d_Model_pass_36 ?_
          refine lv_iload_n hx hb d_Model_pass_39 rfl (lv_at hl 0 rfl) ?_
          refine lv_iconst (v := 4) hx hb d_Model_pass_40 (by decide) ?_
          refine m_st X hK hw hm (k := 2) (j := i + 1) (by decide) (by decide) rfl (by show i + 1 < 301; omega) d_Model_pass_41 (fun f4 H locs hm hw => ?_)
          refine lv_aload_n hx hb d_Model_pass_42 rfl (lv_at hl 2 rfl) ?_
          refine lv_dup hx hb d_Model_pass_43 rfl ?_
          refine fg_Model_80 X hK hw hm.1 d_Model_pass_44 ?_
          refine lv_iconst (v := 1) hx hb d_Model_pass_47 (by decide) ?_
          refine lv_iadd hx hb d_Model_pass_48 ?_
          refine fp_Model_80 X hK hw hm.1 rfl rfl d_Model_pass_49 (fun f5 H locs ef5 hw => ?_)
          have hm : rM f5 ca b AD th mo n t ((lt + nI k) + 1) du (va_up (va_up g 2 (mE t du (g 2) i)) 2 (upd ((va_up g 2 (mE t du (g 2) i)) 2) (i + 1) 4)) := rM_obj hm ef5 hm.2.2.2.2
          refine lv_iinc (v := ((nI (i + 1)) + 1)) (lv' := [(3, .int ((nI (i + 1)) + 1)), (1, .long t), (0, .ref b)]) hx hb d_Model_pass_52 hl (k := 0) rfl rfl (by decide) rfl (fun ls hl => ?_)
          refine lv_goto (tgt := 7) hx hb d_Model_pass_55 (by decide) ?_
          exact ih (i + 1) (k + 1) f5 _ _ ls (by omega) hw (by rw [hk]; exact (if_pos ⟨c2, cmp_nge c3⟩).symm) (by rw [nI_succ k, ← Int32.add_assoc, ← up_e ⟨c2, cmp_nge c3⟩]; exact hm) (by rw [nI_succ (i + 1)]; exact lv_sub hl [0, 1, 2] rfl)
  exact loop n 0 0 f1 _ _ ls (Nat.zero_add _).symm hw rfl (by rw [add_n0, up_0]; exact hm) (lv_sub hl [0, 2, 1] rfl)

abbrev rm_Model_picture : Room := { frames := 2, cells := 0, slots := 0, locals := 47 }
set_option maxHeartbeats 4000000 in
set_option maxRecDepth 100000 in
theorem c_Model_picture {l : Launch} {D : va_G} {ca : Nat → ClassId} {f : wd_M} {sz : Nat} (b : Nat) (AD : Nat → Nat) (th mo : Int32) (n : Nat) (nw : Int64) (lt : Int32) (du : Nat → Int64) (g : Nat → Nat → Int32) (hm : rM f ca b AD th mo n nw lt du g) (t : Int64) (sk : Int32) : Met l y_Model_picture (.code y_Model_picture b_Model_picture 4 (some .int) :: tb) rm_Model_picture (va_Pc [.ref b, .long t, .int sk] (wd_preZ D classes (ty ca) f sz)) (va_Qi (fun r f' => (¬ (isT nw t ∧ wi sk 3) ∧ r = -102 ∧ rM f' ca b AD 0 mo n nw lt du g) ∨ ((isT nw t ∧ wi sk 3) ∧ ((nI n = 300 ∧ r = -104 ∧ rM f' ca b AD 0 mo n nw lt du g) ∨ (¬ nI n = 300 ∧ ((nI (oW (g 2) n) = mo ∧ r = 0 ∧ rM f' ca b AD 0 mo n nw lt du g) ∨ (¬ nI (oW (g 2) n) = mo ∧ r = nI (n + 1) ∧ rM f' ca b AD 0 mo (n + 1) nw lt (vp_updL du (n + 1) t) (va_up g 1 (upd (g 1) (n + 1) sk)))))))) (wd_B D classes f sz) (wd_A f sz)) 0 0 (wd_A f sz) := by
  refine wd_Qi (own := R_Model) (by decide) rfl (Nat.le_of_ble_eq_true rfl) ?_
  intro p e s m args below meth c Q X hK hw ret ls hl
  have hx := X.1
  have hb := X.2.1
  have hown := X.2.2.2.1
  have hts := X.2.2.2.2
  have hl : lv_has ls 4 [(0, .ref b), (1, .long t), (3, .int sk)] := hl
  have hn : n ≤ 300 := hm.2.2.2.2
  refine lv_aload_n hx hb d_Model_picture_0 rfl (lv_at hl 0 rfl) ?_
  refine lv_iconst (v := 0) hx hb d_Model_picture_1 (by decide) ?_
  refine fp_Model_52 X hK hw hm.1 rfl rfl d_Model_picture_2 (fun f1 H locs ef1 hw => ?_)
  have hm : rM f1 ca b AD 0 mo n nw lt du g := rM_obj hm ef1 hm.2.2.2.2
  refine lv_aload_n hx hb d_Model_picture_5 rfl (lv_at hl 0 rfl) ?_
  refine lv_lload_n hx hb d_Model_picture_6 rfl (lv_at hl 1 rfl) ?_
  refine wd_cvi (As := [.long t]) (rest := []) X hK hw (c_Model_isTime b AD 0 mo n nw lt du g hm t) (cw_Model_70 hts rfl rfl ⟨(Nat.le_of_ble_eq_true rfl), (Nat.le_of_ble_eq_true rfl)⟩) hm.1 rfl rfl rfl hl.1 rfl (Nat.le_of_ble_eq_true rfl) d_Model_picture_7 ⟨(Nat.le_of_ble_eq_true rfl), (Nat.le_of_ble_eq_true rfl)⟩ (fun r hz => ?_)
  rcases hz with ⟨z2, rfl⟩ | ⟨z2, rfl⟩
  · skip
    refine lv_if_eq (tgt := 25) hx hb d_Model_picture_10 (by decide) (fun c3 => ?_) (fun c3 => ?_)
    · exact absurd c3 (by decide)
    · skip
      refine lv_iload_n hx hb d_Model_picture_13 rfl (lv_at hl 2 rfl) ?_
      refine lv_i2l hx hb d_Model_picture_14 rfl ?_
      refine lv_lconst (v := 0) hx hb d_Model_picture_15 (by decide) ?_
      refine lv_ldc2 (v := 3) hx hb hown (hts _ k_Model_74) d_Model_picture_16 ?_
      refine wd_csi (As := [.long ((sk).toInt64), .long 0, .long 3]) (rest := []) X hK hw (c_Model_isIn sk.toInt64 0 3) (cw_Model_58 hts rfl rfl ⟨(Nat.le_of_ble_eq_true rfl), (Nat.le_of_ble_eq_true rfl)⟩) rfl hl.1 rfl (Nat.le_of_ble_eq_true rfl) d_Model_picture_19 ⟨(Nat.le_of_ble_eq_true rfl), (Nat.le_of_ble_eq_true rfl)⟩ (fun r hz => ?_)
      rcases hz with ⟨z4, rfl⟩ | ⟨z4, rfl⟩
      · skip
        rw [wi3_iff] at z4
        refine lv_if_ne (tgt := 28) hx hb d_Model_picture_22 (by decide) (fun c5 => ?_) (fun c5 => ?_)
        · skip
          refine lv_aload_n hx hb d_Model_picture_28 rfl (lv_at hl 0 rfl) ?_
          refine fg_Model_55 X hK hw hm.1 d_Model_picture_29 ?_
          refine lv_sipush (v := 300) hx hb d_Model_picture_32 (by decide) ?_
          refine lv_icmp_ne (tgt := 41) hx hb d_Model_picture_35 (by decide) (fun c6 => ?_) (fun c6 => ?_)
          · skip
            refine lv_aload_n hx hb d_Model_picture_41 rfl (lv_at hl 0 rfl) ?_
            refine wd_cvi (As := []) (rest := []) X hK hw (c_Model_open b AD 0 mo n nw lt du g hm) (cw_Model_76 hts rfl rfl ⟨(Nat.le_of_ble_eq_true rfl), (Nat.le_of_ble_eq_true rfl)⟩) hm.1 rfl rfl rfl hl.1 rfl (Nat.le_of_ble_eq_true rfl) d_Model_picture_42 ⟨(Nat.le_of_ble_eq_true rfl), (Nat.le_of_ble_eq_true rfl)⟩ (fun r hz => ?_)
            subst hz
            refine lv_aload_n hx hb d_Model_picture_45 rfl (lv_at hl 0 rfl) ?_
            refine fg_Model_48 X hK hw hm.1 d_Model_picture_46 ?_
            refine lv_icmp_ne (tgt := 54) hx hb d_Model_picture_49 (by decide) (fun c7 => ?_) (fun c7 => ?_)
            · skip
              have hn1 : n + 1 ≤ 300 := by
                have hne : n ≠ 300 := fun q => c6 (by rw [q]; rfl)
                omega
              refine lv_aload_n hx hb d_Model_picture_54 rfl (lv_at hl 0 rfl) ?_
              refine lv_dup hx hb d_Model_picture_55 rfl ?_
              refine fg_Model_55 X hK hw hm.1 d_Model_picture_56 ?_
              refine lv_iconst (v := 1) hx hb d_Model_picture_59 (by decide) ?_
              refine lv_iadd hx hb d_Model_picture_60 ?_
              refine fp_Model_55 X hK hw hm.1 rfl rfl d_Model_picture_61 (fun f8 H locs ef8 hw => ?_)
              have hm : rM f8 ca b AD 0 mo (n + 1) nw lt du g := rM_obj hm (by rw [nI_succ]; exact ef8) hn1
              refine lv_aload_n hx hb d_Model_picture_64 rfl (lv_at hl 0 rfl) ?_
              refine fg_Model_7 X hK hw hm.1 d_Model_picture_65 ?_
              refine lv_aload_n hx hb d_Model_picture_68 rfl (lv_at hl 0 rfl) ?_
              refine fg_Model_55 X hK hw hm.1 d_Model_picture_69 ?_
              refine lv_lload_n hx hb d_Model_picture_72 rfl (lv_at hl 1 rfl) ?_
              refine m_stl X hK hw hm (j := n + 1) (by omega) d_Model_picture_73 (fun f9 H locs hm hw => ?_)
              refine lv_aload_n hx hb d_Model_picture_74 rfl (lv_at hl 0 rfl) ?_
              refine fg_Model_13 X hK hw hm.1 d_Model_picture_75 ?_
              refine lv_aload_n hx hb d_Model_picture_78 rfl (lv_at hl 0 rfl) ?_
              refine fg_Model_55 X hK hw hm.1 d_Model_picture_79 ?_
              refine lv_iload_n hx hb d_Model_picture_82 rfl (lv_at hl 2 rfl) ?_
              refine m_st X hK hw hm (k := 1) (j := n + 1) (by decide) (by decide) rfl (by show n + 1 < 301; omega) d_Model_picture_83 (fun f10 H locs hm hw => ?_)
              refine lv_aload_n hx hb d_Model_picture_84 rfl (lv_at hl 0 rfl) ?_
              refine fg_Model_55 X hK hw hm.1 d_Model_picture_85 ?_
              exact ret _ _ _ _ _ _ d_Model_picture_88 hw (Or.inr ⟨⟨z2, z4⟩, Or.inr ⟨c6, Or.inr ⟨c7, rfl, hm⟩⟩⟩)
            · skip
              refine lv_iconst (v := 0) hx hb d_Model_picture_52 (by decide) ?_
              exact ret _ _ _ _ _ _ d_Model_picture_53 hw (Or.inr ⟨⟨z2, z4⟩, Or.inr ⟨c6, Or.inl ⟨c7, rfl, hm⟩⟩⟩)
          · skip
            refine lv_bipush (v := (-104)) hx hb d_Model_picture_38 (by decide) ?_
            exact ret _ _ _ _ _ _ d_Model_picture_40 hw (Or.inr ⟨⟨z2, z4⟩, Or.inl ⟨c6, rfl, hm⟩⟩)
        · exact absurd c5 (by decide)
      · skip
        rw [wi3_iff] at z4
        refine lv_if_ne (tgt := 28) hx hb d_Model_picture_22 (by decide) (fun c11 => ?_) (fun c11 => ?_)
        · exact absurd c11 (by decide)
        · skip
          refine lv_bipush (v := (-102)) hx hb d_Model_picture_25 (by decide) ?_
          exact ret _ _ _ _ _ _ d_Model_picture_27 hw (Or.inl ⟨(fun q => z4 q.2), rfl, hm⟩)
  · skip
    refine lv_if_eq (tgt := 25) hx hb d_Model_picture_10 (by decide) (fun c12 => ?_) (fun c12 => ?_)
    · skip
      refine lv_bipush (v := (-102)) hx hb d_Model_picture_25 (by decide) ?_
      exact ret _ _ _ _ _ _ d_Model_picture_27 hw (Or.inl ⟨(fun q => z2 q.1), rfl, hm⟩)
    · exact absurd c12 (by decide)

abbrev rm_Model_tick : Room := { frames := 2, cells := 0, slots := 0, locals := 47 }
set_option maxHeartbeats 4000000 in
set_option maxRecDepth 100000 in
theorem c_Model_tick {l : Launch} {D : va_G} {ca : Nat → ClassId} {f : wd_M} {sz : Nat} (b : Nat) (AD : Nat → Nat) (th mo : Int32) (n : Nat) (nw : Int64) (lt : Int32) (du : Nat → Int64) (g : Nat → Nat → Int32) (hm : rM f ca b AD th mo n nw lt du g) (t : Int64) : Met l y_Model_tick (.code y_Model_tick b_Model_tick 4 (some .int) :: tb) rm_Model_tick (va_Pc [.ref b, .long t] (wd_preZ D classes (ty ca) f sz)) (va_Qi (fun r f' => (¬ isT nw t ∧ r = -102 ∧ rM f' ca b AD 0 mo n nw lt du g) ∨ (isT nw t ∧ r = lt + nI (mC t du (g 2) n) ∧ rM f' ca b AD 0 mo n t 0 du (va_up g 2 (mE t du (g 2) n)))) (wd_B D classes f sz) (wd_A f sz)) 0 0 (wd_A f sz) := by
  refine wd_Qi (own := R_Model) (by decide) rfl (Nat.le_of_ble_eq_true rfl) ?_
  intro p e s m args below meth c Q X hK hw ret ls hl
  have hx := X.1
  have hb := X.2.1
  have hown := X.2.2.2.1
  have hts := X.2.2.2.2
  have hl : lv_has ls 4 [(0, .ref b), (1, .long t)] := hl
  have hn : n ≤ 300 := hm.2.2.2.2
  refine lv_aload_n hx hb d_Model_tick_0 rfl (lv_at hl 0 rfl) ?_
  refine lv_iconst (v := 0) hx hb d_Model_tick_1 (by decide) ?_
  refine fp_Model_52 X hK hw hm.1 rfl rfl d_Model_tick_2 (fun f1 H locs ef1 hw => ?_)
  have hm : rM f1 ca b AD 0 mo n nw lt du g := rM_obj hm ef1 hm.2.2.2.2
  refine lv_aload_n hx hb d_Model_tick_5 rfl (lv_at hl 0 rfl) ?_
  refine lv_lload_n hx hb d_Model_tick_6 rfl (lv_at hl 1 rfl) ?_
  refine wd_cvi (As := [.long t]) (rest := []) X hK hw (c_Model_isTime b AD 0 mo n nw lt du g hm t) (cw_Model_70 hts rfl rfl ⟨(Nat.le_of_ble_eq_true rfl), (Nat.le_of_ble_eq_true rfl)⟩) hm.1 rfl rfl rfl hl.1 rfl (Nat.le_of_ble_eq_true rfl) d_Model_tick_7 ⟨(Nat.le_of_ble_eq_true rfl), (Nat.le_of_ble_eq_true rfl)⟩ (fun r hz => ?_)
  rcases hz with ⟨z2, rfl⟩ | ⟨z2, rfl⟩
  · skip
    refine lv_if_ne (tgt := 16) hx hb d_Model_tick_10 (by decide) (fun c3 => ?_) (fun c3 => ?_)
    · skip
      refine lv_aload_n hx hb d_Model_tick_16 rfl (lv_at hl 0 rfl) ?_
      refine lv_lload_n hx hb d_Model_tick_17 rfl (lv_at hl 1 rfl) ?_
      refine wd_mvv (As := [.long t]) (rest := []) X hK hw (c_Model_pass b AD 0 mo n nw lt du g hm t) (cw_Model_97 hts rfl rfl ⟨(Nat.le_of_ble_eq_true rfl), (Nat.le_of_ble_eq_true rfl)⟩) hm.1 rfl rfl rfl hl.1 rfl (Nat.le_of_ble_eq_true rfl) d_Model_tick_18 ⟨(Nat.le_of_ble_eq_true rfl), (Nat.le_of_ble_eq_true rfl)⟩ (fun f4 H locs hm hw => ?_)
      refine lv_aload_n hx hb d_Model_tick_21 rfl (lv_at hl 0 rfl) ?_
      refine fg_Model_80 X hK hw hm.1 d_Model_tick_22 ?_
      refine lv_istore_n (lv' := [(3, .int (lt + nI (mC t du (g 2) n))), (0, .ref b), (1, .long t)]) hx hb d_Model_tick_25 rfl hl (by decide) rfl (fun ls hl => ?_)
      refine lv_aload_n hx hb d_Model_tick_26 rfl (lv_at hl 1 rfl) ?_
      refine lv_iconst (v := 0) hx hb d_Model_tick_27 (by decide) ?_
      refine fp_Model_80 X hK hw hm.1 rfl rfl d_Model_tick_28 (fun f5 H locs ef5 hw => ?_)
      have hm : rM f5 ca b AD 0 mo n t 0 du (va_up g 2 (mE t du (g 2) n)) := rM_obj hm ef5 hm.2.2.2.2
      refine lv_iload_n hx hb d_Model_tick_31 rfl (lv_at hl 0 rfl) ?_
      exact ret _ _ _ _ _ _ d_Model_tick_32 hw (Or.inr ⟨z2, rfl, hm⟩)
    · exact absurd c3 (by decide)
  · skip
    refine lv_if_ne (tgt := 16) hx hb d_Model_tick_10 (by decide) (fun c6 => ?_) (fun c6 => ?_)
    · exact absurd c6 (by decide)
    · skip
      refine lv_bipush (v := (-102)) hx hb d_Model_tick_13 (by decide) ?_
      exact ret _ _ _ _ _ _ d_Model_tick_15 hw (Or.inl ⟨z2, rfl, hm⟩)

abbrev rm_Model_waiting : Room := { frames := 1, cells := 0, slots := 0, locals := 22 }
set_option maxHeartbeats 4000000 in
set_option maxRecDepth 100000 in
theorem c_Model_waiting {l : Launch} {D : va_G} {ca : Nat → ClassId} {f : wd_M} {sz : Nat} (b : Nat) (AD : Nat → Nat) (th mo : Int32) (n : Nat) (nw : Int64) (lt : Int32) (du : Nat → Int64) (g : Nat → Nat → Int32) (hm : rM f ca b AD th mo n nw lt du g) : Met l y_Model_waiting (.code y_Model_waiting b_Model_waiting 1 (some .int) :: tb) rm_Model_waiting (va_Pc [.ref b] (wd_preZ D classes (ty ca) f sz)) (va_Qi (fun r f' => r = nI (oW (g 2) n) ∧ rM f' ca b AD 0 mo n nw lt du g) (wd_B D classes f sz) (wd_A f sz)) 0 0 (wd_A f sz) := by
  refine wd_Qi (own := R_Model) (by decide) rfl (Nat.le_of_ble_eq_true rfl) ?_
  intro p e s m args below meth c Q X hK hw ret ls hl
  have hx := X.1
  have hb := X.2.1
  have hown := X.2.2.2.1
  have hts := X.2.2.2.2
  have hl : lv_has ls 1 [(0, .ref b)] := hl
  have hn : n ≤ 300 := hm.2.2.2.2
  refine lv_aload_n hx hb d_Model_waiting_0 rfl (lv_at hl 0 rfl) ?_
  refine lv_iconst (v := 0) hx hb d_Model_waiting_1 (by decide) ?_
  refine fp_Model_52 X hK hw hm.1 rfl rfl d_Model_waiting_2 (fun f1 H locs ef1 hw => ?_)
  have hm : rM f1 ca b AD 0 mo n nw lt du g := rM_obj hm ef1 hm.2.2.2.2
  refine lv_aload_n hx hb d_Model_waiting_5 rfl (lv_at hl 0 rfl) ?_
  refine wd_cvi (As := []) (rest := []) X hK hw (c_Model_open b AD 0 mo n nw lt du g hm) (cw_Model_76 hts rfl rfl ⟨(Nat.le_of_ble_eq_true rfl), (Nat.le_of_ble_eq_true rfl)⟩) hm.1 rfl rfl rfl hl.1 rfl (Nat.le_of_ble_eq_true rfl) d_Model_waiting_6 ⟨(Nat.le_of_ble_eq_true rfl), (Nat.le_of_ble_eq_true rfl)⟩ (fun r hz => ?_)
  subst hz
  exact ret _ _ _ _ _ _ d_Model_waiting_9 hw ⟨rfl, hm⟩

abbrev rm_Model_settled : Room := { frames := 2, cells := 0, slots := 0, locals := 46 }
set_option maxHeartbeats 4000000 in
set_option maxRecDepth 100000 in
theorem c_Model_settled {l : Launch} {D : va_G} {ca : Nat → ClassId} {f : wd_M} {sz : Nat} (b : Nat) (AD : Nat → Nat) (th mo : Int32) (n : Nat) (nw : Int64) (lt : Int32) (du : Nat → Int64) (g : Nat → Nat → Int32) (hm : rM f ca b AD th mo n nw lt du g) (y : Int32) : Met l y_Model_settled (.code y_Model_settled b_Model_settled 2 (some .int) :: tb) rm_Model_settled (va_Pc [.ref b, .int y] (wd_preZ D classes (ty ca) f sz)) (va_Qi (fun r f' => (∃ i : Nat, i < n ∧ y = nI (i + 1) ∧ r = (if g 2 (i + 1) = 0 then -1 else g 3 (i + 1)) ∧ rM f' ca b AD 0 mo n nw lt du g) ∨ (¬ (¬ y < 1 ∧ ¬ nI n < y) ∧ r = -101 ∧ rM f' ca b AD 0 mo n nw lt du g)) (wd_B D classes f sz) (wd_A f sz)) 0 0 (wd_A f sz) := by
  refine wd_Qi (own := R_Model) (by decide) rfl (Nat.le_of_ble_eq_true rfl) ?_
  intro p e s m args below meth c Q X hK hw ret ls hl
  have hx := X.1
  have hb := X.2.1
  have hown := X.2.2.2.1
  have hts := X.2.2.2.2
  have hl : lv_has ls 2 [(0, .ref b), (1, .int y)] := hl
  have hn : n ≤ 300 := hm.2.2.2.2
  refine lv_aload_n hx hb d_Model_settled_0 rfl (lv_at hl 0 rfl) ?_
  refine lv_iconst (v := 0) hx hb d_Model_settled_1 (by decide) ?_
  refine fp_Model_52 X hK hw hm.1 rfl rfl d_Model_settled_2 (fun f1 H locs ef1 hw => ?_)
  have hm : rM f1 ca b AD 0 mo n nw lt du g := rM_obj hm ef1 hm.2.2.2.2
  refine lv_aload_n hx hb d_Model_settled_5 rfl (lv_at hl 0 rfl) ?_
  refine lv_iload_n hx hb d_Model_settled_6 rfl (lv_at hl 1 rfl) ?_
  refine wd_cvi (As := [.int y]) (rest := []) X hK hw (c_Model_isPicture b AD 0 mo n nw lt du g hm y) (cw_Model_105 hts rfl rfl ⟨(Nat.le_of_ble_eq_true rfl), (Nat.le_of_ble_eq_true rfl)⟩) hm.1 rfl rfl rfl hl.1 rfl (Nat.le_of_ble_eq_true rfl) d_Model_settled_7 ⟨(Nat.le_of_ble_eq_true rfl), (Nat.le_of_ble_eq_true rfl)⟩ (fun r hz => ?_)
  rcases hz with ⟨z2, rfl⟩ | ⟨z2, rfl⟩
  · skip
    obtain ⟨i, hi, hxi⟩ := okN_of hm.2.2.2.2 z2.1 z2.2
    subst hxi
    refine lv_if_ne (tgt := 18) hx hb d_Model_settled_10 (by decide) (fun c3 => ?_) (fun c3 => ?_)
    · skip
      refine lv_aload_n hx hb d_Model_settled_18 rfl (lv_at hl 0 rfl) ?_
      refine fg_Model_17 X hK hw hm.1 d_Model_settled_19 ?_
      refine lv_iload_n hx hb d_Model_settled_22 rfl (lv_at hl 1 rfl) ?_
      refine m_ld X hK hw hm (k := 2) (j := i + 1) (by decide) (by decide) rfl (by show i + 1 < 301; omega) d_Model_settled_23 ?_
      refine lv_if_ne (tgt := 31) hx hb d_Model_settled_24 (by decide) (fun c4 => ?_) (fun c4 => ?_)
      · skip
        refine lv_aload_n hx hb d_Model_settled_31 rfl (lv_at hl 0 rfl) ?_
        refine fg_Model_20 X hK hw hm.1 d_Model_settled_32 ?_
        refine lv_iload_n hx hb d_Model_settled_35 rfl (lv_at hl 1 rfl) ?_
        refine m_ld X hK hw hm (k := 3) (j := i + 1) (by decide) (by decide) rfl (by show i + 1 < 301; omega) d_Model_settled_36 ?_
        exact ret _ _ _ _ _ _ d_Model_settled_37 hw (Or.inl ⟨i, hi, rfl, by rw [if_neg c4], hm⟩)
      · skip
        refine lv_iconst (v := (-1)) hx hb d_Model_settled_27 (by decide) ?_
        refine lv_goto (tgt := 37) hx hb d_Model_settled_28 (by decide) ?_
        exact ret _ _ _ _ _ _ d_Model_settled_37 hw (Or.inl ⟨i, hi, rfl, by rw [if_pos c4], hm⟩)
    · exact absurd c3 (by decide)
  · skip
    refine lv_if_ne (tgt := 18) hx hb d_Model_settled_10 (by decide) (fun c5 => ?_) (fun c5 => ?_)
    · exact absurd c5 (by decide)
    · skip
      refine lv_bipush (v := (-101)) hx hb d_Model_settled_13 (by decide) ?_
      refine lv_goto (tgt := 37) hx hb d_Model_settled_15 (by decide) ?_
      exact ret _ _ _ _ _ _ d_Model_settled_37 hw (Or.inr ⟨z2, rfl, hm⟩)

abbrev rm_Model_state : Room := { frames := 3, cells := 0, slots := 0, locals := 65 }
set_option maxHeartbeats 4000000 in
set_option maxRecDepth 100000 in
theorem c_Model_state {l : Launch} {D : va_G} {ca : Nat → ClassId} {f : wd_M} {sz : Nat} (b : Nat) (AD : Nat → Nat) (th mo : Int32) (n : Nat) (nw : Int64) (lt : Int32) (du : Nat → Int64) (g : Nat → Nat → Int32) (hm : rM f ca b AD th mo n nw lt du g) (y : Int32) : Met l y_Model_state (.code y_Model_state b_Model_state 2 (some .int) :: tb) rm_Model_state (va_Pc [.ref b, .int y] (wd_preZ D classes (ty ca) f sz)) (va_Qi (fun r f' => (∃ i : Nat, i < n ∧ y = nI (i + 1) ∧ r = mst g i ∧ rM f' ca b AD 0 mo n nw lt du g) ∨ (¬ (¬ y < 1 ∧ ¬ nI n < y) ∧ r = -101 ∧ rM f' ca b AD 0 mo n nw lt du g)) (wd_B D classes f sz) (wd_A f sz)) 0 0 (wd_A f sz) := by
  refine wd_Qi (own := R_Model) (by decide) rfl (Nat.le_of_ble_eq_true rfl) ?_
  intro p e s m args below meth c Q X hK hw ret ls hl
  have hx := X.1
  have hb := X.2.1
  have hown := X.2.2.2.1
  have hts := X.2.2.2.2
  have hl : lv_has ls 2 [(0, .ref b), (1, .int y)] := hl
  have hn : n ≤ 300 := hm.2.2.2.2
  refine lv_aload_n hx hb d_Model_state_0 rfl (lv_at hl 0 rfl) ?_
  refine lv_iconst (v := 0) hx hb d_Model_state_1 (by decide) ?_
  refine fp_Model_52 X hK hw hm.1 rfl rfl d_Model_state_2 (fun f1 H locs ef1 hw => ?_)
  have hm : rM f1 ca b AD 0 mo n nw lt du g := rM_obj hm ef1 hm.2.2.2.2
  refine lv_aload_n hx hb d_Model_state_5 rfl (lv_at hl 0 rfl) ?_
  refine lv_iload_n hx hb d_Model_state_6 rfl (lv_at hl 1 rfl) ?_
  refine wd_cvi (As := [.int y]) (rest := []) X hK hw (c_Model_isPicture b AD 0 mo n nw lt du g hm y) (cw_Model_105 hts rfl rfl ⟨(Nat.le_of_ble_eq_true rfl), (Nat.le_of_ble_eq_true rfl)⟩) hm.1 rfl rfl rfl hl.1 rfl (Nat.le_of_ble_eq_true rfl) d_Model_state_7 ⟨(Nat.le_of_ble_eq_true rfl), (Nat.le_of_ble_eq_true rfl)⟩ (fun r hz => ?_)
  rcases hz with ⟨z2, rfl⟩ | ⟨z2, rfl⟩
  · skip
    obtain ⟨i, hi, hxi⟩ := okN_of hm.2.2.2.2 z2.1 z2.2
    subst hxi
    refine lv_if_eq (tgt := 21) hx hb d_Model_state_10 (by decide) (fun c3 => ?_) (fun c3 => ?_)
    · exact absurd c3 (by decide)
    · skip
      refine lv_aload_n hx hb d_Model_state_13 rfl (lv_at hl 0 rfl) ?_
      refine lv_iload_n hx hb d_Model_state_14 rfl (lv_at hl 1 rfl) ?_
      refine wd_cvi (As := [.int (nI (i + 1))]) (rest := []) X hK hw (c_Model_stateOf b AD 0 mo n nw lt du g hm i hi) (cw_Model_114 hts rfl rfl ⟨(Nat.le_of_ble_eq_true rfl), (Nat.le_of_ble_eq_true rfl)⟩) hm.1 rfl rfl rfl hl.1 rfl (Nat.le_of_ble_eq_true rfl) d_Model_state_15 ⟨(Nat.le_of_ble_eq_true rfl), (Nat.le_of_ble_eq_true rfl)⟩ (fun r hz => ?_)
      subst hz
      refine lv_goto (tgt := 23) hx hb d_Model_state_18 (by decide) ?_
      exact ret _ _ _ _ _ _ d_Model_state_23 hw (Or.inl ⟨i, hi, rfl, rfl, hm⟩)
  · skip
    refine lv_if_eq (tgt := 21) hx hb d_Model_state_10 (by decide) (fun c4 => ?_) (fun c4 => ?_)
    · skip
      refine lv_bipush (v := (-101)) hx hb d_Model_state_21 (by decide) ?_
      exact ret _ _ _ _ _ _ d_Model_state_23 hw (Or.inr ⟨z2, rfl, hm⟩)
    · exact absurd c4 (by decide)

abbrev rm_Model_office : Room := { frames := 2, cells := 0, slots := 0, locals := 45 }
set_option maxHeartbeats 4000000 in
set_option maxRecDepth 100000 in
theorem c_Model_office {l : Launch} {D : va_G} {ca : Nat → ClassId} {f : wd_M} {sz : Nat} (b : Nat) (AD : Nat → Nat) (th mo : Int32) (n : Nat) (nw : Int64) (lt : Int32) (du : Nat → Int64) (g : Nat → Nat → Int32) (hm : rM f ca b AD th mo n nw lt du g) (x of sk : Int32) : Met l y_Model_office (.code y_Model_office b_Model_office 5 (some .int) :: tb) rm_Model_office (va_Pc [.ref b, .int x, .int of, .int sk] (wd_preZ D classes (ty ca) f sz)) (va_Qi (fun r f' => (¬ okK x ∧ r = -101 ∧ rM f' ca b AD 0 mo n nw lt du g) ∨ ∃ j : Nat, j < 20 ∧ x = nI j ∧ ((¬ (wi of 4 ∧ wi sk 3) ∧ r = -102 ∧ rM f' ca b AD 0 mo n nw lt du g) ∨ ((wi of 4 ∧ wi sk 3) ∧ r = (if ¬ g 9 j = 0 ∧ g 10 j = of ∧ g 11 j = sk then 0 else 1) ∧ rM f' ca b AD 0 mo n nw lt du (va_up (va_up (va_up g 9 (upd (g 9) j 1)) 10 (upd ((va_up g 9 (upd (g 9) j 1)) 10) j of)) 11 (upd ((va_up (va_up g 9 (upd (g 9) j 1)) 10 (upd ((va_up g 9 (upd (g 9) j 1)) 10) j of)) 11) j sk))))) (wd_B D classes f sz) (wd_A f sz)) 0 0 (wd_A f sz) := by
  refine wd_Qi (own := R_Model) (by decide) rfl (Nat.le_of_ble_eq_true rfl) ?_
  intro p e s m args below meth c Q X hK hw ret ls hl
  have hx := X.1
  have hb := X.2.1
  have hown := X.2.2.2.1
  have hts := X.2.2.2.2
  have hl : lv_has ls 5 [(0, .ref b), (1, .int x), (2, .int of), (3, .int sk)] := hl
  have hn : n ≤ 300 := hm.2.2.2.2
  refine lv_aload_n hx hb d_Model_office_0 rfl (lv_at hl 0 rfl) ?_
  refine lv_iconst (v := 0) hx hb d_Model_office_1 (by decide) ?_
  refine fp_Model_52 X hK hw hm.1 rfl rfl d_Model_office_2 (fun f1 H locs ef1 hw => ?_)
  have hm : rM f1 ca b AD 0 mo n nw lt du g := rM_obj hm ef1 hm.2.2.2.2
  refine lv_iload_n hx hb d_Model_office_5 rfl (lv_at hl 1 rfl) ?_
  refine wd_csi (As := [.int x]) (rest := []) X hK hw (c_Model_isClerk x) (cw_Model_90 hts rfl rfl ⟨(Nat.le_of_ble_eq_true rfl), (Nat.le_of_ble_eq_true rfl)⟩) rfl hl.1 rfl (Nat.le_of_ble_eq_true rfl) d_Model_office_6 ⟨(Nat.le_of_ble_eq_true rfl), (Nat.le_of_ble_eq_true rfl)⟩ (fun r hz => ?_)
  rcases hz with ⟨z2, rfl⟩ | ⟨z2, rfl⟩
  · skip
    obtain ⟨j, hj, hxj⟩ := ok20 z2.1 z2.2
    subst hxj
    refine lv_if_ne (tgt := 15) hx hb d_Model_office_9 (by decide) (fun c3 => ?_) (fun c3 => ?_)
    · skip
      refine lv_iload_n hx hb d_Model_office_15 rfl (lv_at hl 2 rfl) ?_
      refine lv_i2l hx hb d_Model_office_16 rfl ?_
      refine lv_lconst (v := 0) hx hb d_Model_office_17 (by decide) ?_
      refine lv_ldc2 (v := 4) hx hb hown (hts _ k_Model_117) d_Model_office_18 ?_
      refine wd_csi (As := [.long ((of).toInt64), .long 0, .long 4]) (rest := []) X hK hw (c_Model_isIn of.toInt64 0 4) (cw_Model_58 hts rfl rfl ⟨(Nat.le_of_ble_eq_true rfl), (Nat.le_of_ble_eq_true rfl)⟩) rfl hl.1 rfl (Nat.le_of_ble_eq_true rfl) d_Model_office_21 ⟨(Nat.le_of_ble_eq_true rfl), (Nat.le_of_ble_eq_true rfl)⟩ (fun r hz => ?_)
      rcases hz with ⟨z4, rfl⟩ | ⟨z4, rfl⟩
      · skip
        rw [wi4_iff] at z4
        refine lv_if_eq (tgt := 39) hx hb d_Model_office_24 (by decide) (fun c5 => ?_) (fun c5 => ?_)
        · exact absurd c5 (by decide)
        · skip
          refine lv_iload_n hx hb d_Model_office_27 rfl (lv_at hl 3 rfl) ?_
          refine lv_i2l hx hb d_Model_office_28 rfl ?_
          refine lv_lconst (v := 0) hx hb d_Model_office_29 (by decide) ?_
          refine lv_ldc2 (v := 3) hx hb hown (hts _ k_Model_74) d_Model_office_30 ?_
          refine wd_csi (As := [.long ((sk).toInt64), .long 0, .long 3]) (rest := []) X hK hw (c_Model_isIn sk.toInt64 0 3) (cw_Model_58 hts rfl rfl ⟨(Nat.le_of_ble_eq_true rfl), (Nat.le_of_ble_eq_true rfl)⟩) rfl hl.1 rfl (Nat.le_of_ble_eq_true rfl) d_Model_office_33 ⟨(Nat.le_of_ble_eq_true rfl), (Nat.le_of_ble_eq_true rfl)⟩ (fun r hz => ?_)
          rcases hz with ⟨z6, rfl⟩ | ⟨z6, rfl⟩
          · skip
            rw [wi3_iff] at z6
            refine lv_if_ne (tgt := 42) hx hb d_Model_office_36 (by decide) (fun c7 => ?_) (fun c7 => ?_)
            · skip
              refine lv_aload_n hx hb d_Model_office_42 rfl (lv_at hl 0 rfl) ?_
              refine fg_Model_38 X hK hw hm.1 d_Model_office_43 ?_
              refine lv_iload_n hx hb d_Model_office_46 rfl (lv_at hl 1 rfl) ?_
              refine m_ldz X hK hw hm (j := j) (by omega) d_Model_office_47 ?_
              refine lv_if_eq (tgt := 75) hx hb d_Model_office_48 (by decide) (fun c8 => ?_) (fun c8 => ?_)
              · skip
                refine lv_iconst (v := 0) hx hb d_Model_office_75 (by decide) ?_
                refine lv_istore (lv' := [(4, .int 0), (0, .ref b), (1, .int (nI j)), (2, .int of), (3, .int sk)]) hx hb d_Model_office_76 hl (by decide) rfl (fun ls hl => ?_)
                refine lv_aload_n hx hb d_Model_office_78 rfl (lv_at hl 1 rfl) ?_
                refine fg_Model_38 X hK hw hm.1 d_Model_office_79 ?_
                refine lv_iload_n hx hb d_Model_office_82 rfl (lv_at hl 2 rfl) ?_
                refine lv_iconst (v := 1) hx hb d_Model_office_83 (by decide) ?_
                refine m_stz X hK hw hm (j := j) (by decide) (by omega) d_Model_office_84 (fun f9 H locs hm hw => ?_)
                refine lv_aload_n hx hb d_Model_office_85 rfl (lv_at hl 1 rfl) ?_
                refine fg_Model_42 X hK hw hm.1 d_Model_office_86 ?_
                refine lv_iload_n hx hb d_Model_office_89 rfl (lv_at hl 2 rfl) ?_
                refine lv_iload_n hx hb d_Model_office_90 rfl (lv_at hl 3 rfl) ?_
                refine m_st X hK hw hm (k := 10) (j := j) (by decide) (by decide) rfl (by show j < 20; omega) d_Model_office_91 (fun f10 H locs hm hw => ?_)
                refine lv_aload_n hx hb d_Model_office_92 rfl (lv_at hl 1 rfl) ?_
                refine fg_Model_45 X hK hw hm.1 d_Model_office_93 ?_
                refine lv_iload_n hx hb d_Model_office_96 rfl (lv_at hl 2 rfl) ?_
                refine lv_iload_n hx hb d_Model_office_97 rfl (lv_at hl 4 rfl) ?_
                refine m_st X hK hw hm (k := 11) (j := j) (by decide) (by decide) rfl (by show j < 20; omega) d_Model_office_98 (fun f11 H locs hm hw => ?_)
                refine lv_iload hx hb d_Model_office_99 (lv_at hl 0 rfl) ?_
                refine lv_if_eq (tgt := 108) hx hb d_Model_office_101 (by decide) (fun c12 => ?_) (fun c12 => ?_)
                · skip
                  refine lv_iconst (v := 1) hx hb d_Model_office_108 (by decide) ?_
                  exact ret _ _ _ _ _ _ d_Model_office_109 hw (Or.inr ⟨j, hj, rfl, Or.inr ⟨⟨z4, z6⟩, by rw [if_neg (fun q => q.1 c8)], hm⟩⟩)
                · exact absurd c12 (by decide)
              · skip
                refine lv_aload_n hx hb d_Model_office_51 rfl (lv_at hl 0 rfl) ?_
                refine fg_Model_42 X hK hw hm.1 d_Model_office_52 ?_
                refine lv_iload_n hx hb d_Model_office_55 rfl (lv_at hl 1 rfl) ?_
                refine m_ld X hK hw hm (k := 10) (j := j) (by decide) (by decide) rfl (by show j < 20; omega) d_Model_office_56 ?_
                refine lv_iload_n hx hb d_Model_office_57 rfl (lv_at hl 2 rfl) ?_
                refine lv_icmp_ne (tgt := 75) hx hb d_Model_office_58 (by decide) (fun c13 => ?_) (fun c13 => ?_)
                · skip
                  refine lv_iconst (v := 0) hx hb d_Model_office_75 (by decide) ?_
                  refine lv_istore (lv' := [(4, .int 0), (0, .ref b), (1, .int (nI j)), (2, .int of), (3, .int sk)]) hx hb d_Model_office_76 hl (by decide) rfl (fun ls hl => ?_)
                  refine lv_aload_n hx hb d_Model_office_78 rfl (lv_at hl 1 rfl) ?_
                  refine fg_Model_38 X hK hw hm.1 d_Model_office_79 ?_
                  refine lv_iload_n hx hb d_Model_office_82 rfl (lv_at hl 2 rfl) ?_
                  refine lv_iconst (v := 1) hx hb d_Model_office_83 (by decide) ?_
                  refine m_stz X hK hw hm (j := j) (by decide) (by omega) d_Model_office_84 (fun f14 H locs hm hw => ?_)
                  refine lv_aload_n hx hb d_Model_office_85 rfl (lv_at hl 1 rfl) ?_
                  refine fg_Model_42 X hK hw hm.1 d_Model_office_86 ?_
                  refine lv_iload_n hx hb d_Model_office_89 rfl (lv_at hl 2 rfl) ?_
                  refine lv_iload_n hx hb d_Model_office_90 rfl (lv_at hl 3 rfl) ?_
                  refine m_st X hK hw hm (k := 10) (j := j) (by decide) (by decide) rfl (by show j < 20; omega) d_Model_office_91 (fun f15 H locs hm hw => ?_)
                  refine lv_aload_n hx hb d_Model_office_92 rfl (lv_at hl 1 rfl) ?_
                  refine fg_Model_45 X hK hw hm.1 d_Model_office_93 ?_
                  refine lv_iload_n hx hb d_Model_office_96 rfl (lv_at hl 2 rfl) ?_
                  refine lv_iload_n hx hb d_Model_office_97 rfl (lv_at hl 4 rfl) ?_
                  refine m_st X hK hw hm (k := 11) (j := j) (by decide) (by decide) rfl (by show j < 20; omega) d_Model_office_98 (fun f16 H locs hm hw => ?_)
                  refine lv_iload hx hb d_Model_office_99 (lv_at hl 0 rfl) ?_
                  refine lv_if_eq (tgt := 108) hx hb d_Model_office_101 (by decide) (fun c17 => ?_) (fun c17 => ?_)
                  · skip
                    refine lv_iconst (v := 1) hx hb d_Model_office_108 (by decide) ?_
                    exact ret _ _ _ _ _ _ d_Model_office_109 hw (Or.inr ⟨j, hj, rfl, Or.inr ⟨⟨z4, z6⟩, by rw [if_neg (fun q => c13 q.2.1)], hm⟩⟩)
                  · exact absurd c17 (by decide)
                · skip
                  refine lv_aload_n hx hb d_Model_office_61 rfl (lv_at hl 0 rfl) ?_
                  refine fg_Model_45 X hK hw hm.1 d_Model_office_62 ?_
                  refine lv_iload_n hx hb d_Model_office_65 rfl (lv_at hl 1 rfl) ?_
                  refine m_ld X hK hw hm (k := 11) (j := j) (by decide) (by decide) rfl (by show j < 20; omega) d_Model_office_66 ?_
                  refine lv_iload_n hx hb d_Model_office_67 rfl (lv_at hl 3 rfl) ?_
                  refine lv_icmp_ne (tgt := 75) hx hb d_Model_office_68 (by decide) (fun c18 => ?_) (fun c18 => ?_)
                  · skip
                    refine lv_iconst (v := 0) hx hb d_Model_office_75 (by decide) ?_
                    refine lv_istore (lv' := [(4, .int 0), (0, .ref b), (1, .int (nI j)), (2, .int of), (3, .int sk)]) hx hb d_Model_office_76 hl (by decide) rfl (fun ls hl => ?_)
                    refine lv_aload_n hx hb d_Model_office_78 rfl (lv_at hl 1 rfl) ?_
                    refine fg_Model_38 X hK hw hm.1 d_Model_office_79 ?_
                    refine lv_iload_n hx hb d_Model_office_82 rfl (lv_at hl 2 rfl) ?_
                    refine lv_iconst (v := 1) hx hb d_Model_office_83 (by decide) ?_
                    refine m_stz X hK hw hm (j := j) (by decide) (by omega) d_Model_office_84 (fun f19 H locs hm hw => ?_)
                    refine lv_aload_n hx hb d_Model_office_85 rfl (lv_at hl 1 rfl) ?_
                    refine fg_Model_42 X hK hw hm.1 d_Model_office_86 ?_
                    refine lv_iload_n hx hb d_Model_office_89 rfl (lv_at hl 2 rfl) ?_
                    refine lv_iload_n hx hb d_Model_office_90 rfl (lv_at hl 3 rfl) ?_
                    refine m_st X hK hw hm (k := 10) (j := j) (by decide) (by decide) rfl (by show j < 20; omega) d_Model_office_91 (fun f20 H locs hm hw => ?_)
                    refine lv_aload_n hx hb d_Model_office_92 rfl (lv_at hl 1 rfl) ?_
                    refine fg_Model_45 X hK hw hm.1 d_Model_office_93 ?_
                    refine lv_iload_n hx hb d_Model_office_96 rfl (lv_at hl 2 rfl) ?_
                    refine lv_iload_n hx hb d_Model_office_97 rfl (lv_at hl 4 rfl) ?_
                    refine m_st X hK hw hm (k := 11) (j := j) (by decide) (by decide) rfl (by show j < 20; omega) d_Model_office_98 (fun f21 H locs hm hw => ?_)
                    refine lv_iload hx hb d_Model_office_99 (lv_at hl 0 rfl) ?_
                    refine lv_if_eq (tgt := 108) hx hb d_Model_office_101 (by decide) (fun c22 => ?_) (fun c22 => ?_)
                    · skip
                      refine lv_iconst (v := 1) hx hb d_Model_office_108 (by decide) ?_
                      exact ret _ _ _ _ _ _ d_Model_office_109 hw (Or.inr ⟨j, hj, rfl, Or.inr ⟨⟨z4, z6⟩, by rw [if_neg (fun q => c18 q.2.2)], hm⟩⟩)
                    · exact absurd c22 (by decide)
                  · skip
                    refine lv_iconst (v := 1) hx hb d_Model_office_71 (by decide) ?_
                    refine lv_goto (tgt := 76) hx hb d_Model_office_72 (by decide) ?_
                    refine lv_istore (lv' := [(4, .int 1), (0, .ref b), (1, .int (nI j)), (2, .int of), (3, .int sk)]) hx hb d_Model_office_76 hl (by decide) rfl (fun ls hl => ?_)
                    refine lv_aload_n hx hb d_Model_office_78 rfl (lv_at hl 1 rfl) ?_
                    refine fg_Model_38 X hK hw hm.1 d_Model_office_79 ?_
                    refine lv_iload_n hx hb d_Model_office_82 rfl (lv_at hl 2 rfl) ?_
                    refine lv_iconst (v := 1) hx hb d_Model_office_83 (by decide) ?_
                    refine m_stz X hK hw hm (j := j) (by decide) (by omega) d_Model_office_84 (fun f23 H locs hm hw => ?_)
                    refine lv_aload_n hx hb d_Model_office_85 rfl (lv_at hl 1 rfl) ?_
                    refine fg_Model_42 X hK hw hm.1 d_Model_office_86 ?_
                    refine lv_iload_n hx hb d_Model_office_89 rfl (lv_at hl 2 rfl) ?_
                    refine lv_iload_n hx hb d_Model_office_90 rfl (lv_at hl 3 rfl) ?_
                    refine m_st X hK hw hm (k := 10) (j := j) (by decide) (by decide) rfl (by show j < 20; omega) d_Model_office_91 (fun f24 H locs hm hw => ?_)
                    refine lv_aload_n hx hb d_Model_office_92 rfl (lv_at hl 1 rfl) ?_
                    refine fg_Model_45 X hK hw hm.1 d_Model_office_93 ?_
                    refine lv_iload_n hx hb d_Model_office_96 rfl (lv_at hl 2 rfl) ?_
                    refine lv_iload_n hx hb d_Model_office_97 rfl (lv_at hl 4 rfl) ?_
                    refine m_st X hK hw hm (k := 11) (j := j) (by decide) (by decide) rfl (by show j < 20; omega) d_Model_office_98 (fun f25 H locs hm hw => ?_)
                    refine lv_iload hx hb d_Model_office_99 (lv_at hl 0 rfl) ?_
                    refine lv_if_eq (tgt := 108) hx hb d_Model_office_101 (by decide) (fun c26 => ?_) (fun c26 => ?_)
                    · exact absurd c26 (by decide)
                    · skip
                      refine lv_iconst (v := 0) hx hb d_Model_office_104 (by decide) ?_
                      refine lv_goto (tgt := 109) hx hb d_Model_office_105 (by decide) ?_
                      exact ret _ _ _ _ _ _ d_Model_office_109 hw (Or.inr ⟨j, hj, rfl, Or.inr ⟨⟨z4, z6⟩, by rw [if_pos ⟨c8, c13, c18⟩], hm⟩⟩)
            · exact absurd c7 (by decide)
          · skip
            rw [wi3_iff] at z6
            refine lv_if_ne (tgt := 42) hx hb d_Model_office_36 (by decide) (fun c27 => ?_) (fun c27 => ?_)
            · exact absurd c27 (by decide)
            · skip
              refine lv_bipush (v := (-102)) hx hb d_Model_office_39 (by decide) ?_
              exact ret _ _ _ _ _ _ d_Model_office_41 hw (Or.inr ⟨j, hj, rfl, Or.inl ⟨(fun q => z6 q.2), rfl, hm⟩⟩)
      · skip
        rw [wi4_iff] at z4
        refine lv_if_eq (tgt := 39) hx hb d_Model_office_24 (by decide) (fun c28 => ?_) (fun c28 => ?_)
        · skip
          refine lv_bipush (v := (-102)) hx hb d_Model_office_39 (by decide) ?_
          exact ret _ _ _ _ _ _ d_Model_office_41 hw (Or.inr ⟨j, hj, rfl, Or.inl ⟨(fun q => z4 q.1), rfl, hm⟩⟩)
        · exact absurd c28 (by decide)
    · exact absurd c3 (by decide)
  · skip
    refine lv_if_ne (tgt := 15) hx hb d_Model_office_9 (by decide) (fun c29 => ?_) (fun c29 => ?_)
    · exact absurd c29 (by decide)
    · skip
      refine lv_bipush (v := (-101)) hx hb d_Model_office_12 (by decide) ?_
      exact ret _ _ _ _ _ _ d_Model_office_14 hw (Or.inl ⟨z2, rfl, hm⟩)

abbrev rm_Model_leave : Room := { frames := 2, cells := 0, slots := 0, locals := 45 }
set_option maxHeartbeats 4000000 in
set_option maxRecDepth 100000 in
theorem c_Model_leave {l : Launch} {D : va_G} {ca : Nat → ClassId} {f : wd_M} {sz : Nat} (b : Nat) (AD : Nat → Nat) (th mo : Int32) (n : Nat) (nw : Int64) (lt : Int32) (du : Nat → Int64) (g : Nat → Nat → Int32) (hm : rM f ca b AD th mo n nw lt du g) (x : Int32) : Met l y_Model_leave (.code y_Model_leave b_Model_leave 3 (some .int) :: tb) rm_Model_leave (va_Pc [.ref b, .int x] (wd_preZ D classes (ty ca) f sz)) (va_Qi (fun r f' => (¬ okK x ∧ r = -101 ∧ rM f' ca b AD 0 mo n nw lt du g) ∨ ∃ j : Nat, j < 20 ∧ x = nI j ∧ ((g 9 j = 0 ∧ r = -103 ∧ rM f' ca b AD 0 mo n nw lt du g) ∨ (¬ g 9 j = 0 ∧ ((hd (g 6) j n = 0 ∧ r = 0 ∧ rM f' ca b AD 0 mo n nw lt du (va_up g 9 (upd (g 9) j 0))) ∨ ∃ b1 : Nat, hd (g 6) j n = b1 + 1 ∧ r = 1 ∧ rM f' ca b AD 0 mo n nw lt du (va_up (va_up g 9 (upd (g 9) j 0)) 6 (upd ((va_up g 9 (upd (g 9) j 0)) 6) (20 * b1 + j) 1)))))) (wd_B D classes f sz) (wd_A f sz)) 0 0 (wd_A f sz) := by
  refine wd_Qi (own := R_Model) (by decide) rfl (Nat.le_of_ble_eq_true rfl) ?_
  intro p e s m args below meth c Q X hK hw ret ls hl
  have hx := X.1
  have hb := X.2.1
  have hown := X.2.2.2.1
  have hts := X.2.2.2.2
  have hl : lv_has ls 3 [(0, .ref b), (1, .int x)] := hl
  have hn : n ≤ 300 := hm.2.2.2.2
  refine lv_aload_n hx hb d_Model_leave_0 rfl (lv_at hl 0 rfl) ?_
  refine lv_iconst (v := 0) hx hb d_Model_leave_1 (by decide) ?_
  refine fp_Model_52 X hK hw hm.1 rfl rfl d_Model_leave_2 (fun f1 H locs ef1 hw => ?_)
  have hm : rM f1 ca b AD 0 mo n nw lt du g := rM_obj hm ef1 hm.2.2.2.2
  refine lv_iload_n hx hb d_Model_leave_5 rfl (lv_at hl 1 rfl) ?_
  refine wd_csi (As := [.int x]) (rest := []) X hK hw (c_Model_isClerk x) (cw_Model_90 hts rfl rfl ⟨(Nat.le_of_ble_eq_true rfl), (Nat.le_of_ble_eq_true rfl)⟩) rfl hl.1 rfl (Nat.le_of_ble_eq_true rfl) d_Model_leave_6 ⟨(Nat.le_of_ble_eq_true rfl), (Nat.le_of_ble_eq_true rfl)⟩ (fun r hz => ?_)
  rcases hz with ⟨z2, rfl⟩ | ⟨z2, rfl⟩
  · skip
    obtain ⟨j, hj, hxj⟩ := ok20 z2.1 z2.2
    subst hxj
    refine lv_if_ne (tgt := 15) hx hb d_Model_leave_9 (by decide) (fun c3 => ?_) (fun c3 => ?_)
    · skip
      refine lv_aload_n hx hb d_Model_leave_15 rfl (lv_at hl 0 rfl) ?_
      refine fg_Model_38 X hK hw hm.1 d_Model_leave_16 ?_
      refine lv_iload_n hx hb d_Model_leave_19 rfl (lv_at hl 1 rfl) ?_
      refine m_ldz X hK hw hm (j := j) (by omega) d_Model_leave_20 ?_
      refine lv_if_ne (tgt := 27) hx hb d_Model_leave_21 (by decide) (fun c4 => ?_) (fun c4 => ?_)
      · skip
        refine lv_aload_n hx hb d_Model_leave_27 rfl (lv_at hl 0 rfl) ?_
        refine fg_Model_38 X hK hw hm.1 d_Model_leave_28 ?_
        refine lv_iload_n hx hb d_Model_leave_31 rfl (lv_at hl 1 rfl) ?_
        refine lv_iconst (v := 0) hx hb d_Model_leave_32 (by decide) ?_
        refine m_stz X hK hw hm (j := j) (by decide) (by omega) d_Model_leave_33 (fun f5 H locs hm hw => ?_)
        refine lv_aload_n hx hb d_Model_leave_34 rfl (lv_at hl 0 rfl) ?_
        refine lv_iload_n hx hb d_Model_leave_35 rfl (lv_at hl 1 rfl) ?_
        refine wd_cvi (As := [.int (nI j)]) (rest := []) X hK hw (c_Model_held b AD 0 mo n nw lt du (va_up g 9 (upd (g 9) j 0)) hm j hj) (cw_Model_93 hts rfl rfl ⟨(Nat.le_of_ble_eq_true rfl), (Nat.le_of_ble_eq_true rfl)⟩) hm.1 rfl rfl rfl hl.1 rfl (Nat.le_of_ble_eq_true rfl) d_Model_leave_36 ⟨(Nat.le_of_ble_eq_true rfl), (Nat.le_of_ble_eq_true rfl)⟩ (fun r hz => ?_)
        subst hz
        refine lv_istore_n (lv' := [(2, .int (nI (hd ((va_up g 9 (upd (g 9) j 0)) 6) j n))), (0, .ref b), (1, .int (nI j))]) hx hb d_Model_leave_39 rfl hl (by decide) rfl (fun ls hl => ?_)
        have hl : lv_has ls 3 [(2, .int (nI (hd (g 6) j n))), (0, .ref b), (1, .int (nI j))] := hl
        refine lv_iload_n hx hb d_Model_leave_40 rfl (lv_at hl 0 rfl) ?_
        refine lv_if_le (tgt := 59) hx hb d_Model_leave_41 (by decide) (fun c6 => ?_) (fun c6 => ?_)
        · skip
          refine lv_iload_n hx hb d_Model_leave_59 rfl (lv_at hl 0 rfl) ?_
          refine lv_if_le (tgt := 67) hx hb d_Model_leave_60 (by decide) (fun c7 => ?_) (fun c7 => ?_)
          · skip
            refine lv_iconst (v := 0) hx hb d_Model_leave_67 (by decide) ?_
            exact ret _ _ _ _ _ _ d_Model_leave_68 hw (Or.inr ⟨j, hj, rfl, Or.inr ⟨c4, Or.inl ⟨(nI_le0 (hd_lt hn)).mp c6, rfl, hm⟩⟩⟩)
          · skip
            refine lv_iconst (v := 1) hx hb d_Model_leave_63 (by decide) ?_
            refine lv_goto (tgt := 68) hx hb d_Model_leave_64 (by decide) ?_
            exact ret _ _ _ _ _ _ d_Model_leave_68 hw (absurd c6 c7)
        · skip
          obtain ⟨b1, hb1⟩ : ∃ b1, hd (g 6) j n = b1 + 1 := ⟨hd (g 6) j n - 1, by have h0 : hd (g 6) j n ≠ 0 := fun q => c6 ((nI_le0 (hd_lt hn)).mpr q); omega⟩
          have hb1n : b1 < n := by have := hd_le (d := g 6) (j := j) n; omega
          have hl : lv_has ls 3 [(2, .int (nI (b1 + 1))), (0, .ref b), (1, .int (nI j))] := by rw [← hb1]; exact hl
          refine lv_aload_n hx hb d_Model_leave_44 rfl (lv_at hl 1 rfl) ?_
          refine fg_Model_29 X hK hw hm.1 d_Model_leave_45 ?_
          refine lv_bipush (v := 20) hx hb d_Model_leave_48 (by decide) ?_
          refine lv_iload_n hx hb d_Model_leave_50 rfl (lv_at hl 0 rfl) ?_
          refine lv_imul hx hb d_Model_leave_51 ?_
          refine lv_iload_n hx hb d_Model_leave_52 rfl (lv_at hl 2 rfl) ?_
          refine lv_iadd hx hb d_Model_leave_53 ?_
          refine lv_bipush (v := 20) hx hb d_Model_leave_54 (by decide) ?_
          refine lv_isub hx hb d_Model_leave_56 ?_
          refine lv_iconst (v := 1) hx hb d_Model_leave_57 (by decide) ?_
          rw [ix20 b1 j]
          refine m_st X hK hw hm (k := 6) (j := 20 * b1 + j) (by decide) (by decide) rfl (by show 20 * b1 + j < 6020; omega) d_Model_leave_58 (fun f8 H locs hm hw => ?_)
          refine lv_iload_n hx hb d_Model_leave_59 rfl (lv_at hl 0 rfl) ?_
          refine lv_if_le (tgt := 67) hx hb d_Model_leave_60 (by decide) (fun c9 => ?_) (fun c9 => ?_)
          · skip
            refine lv_iconst (v := 0) hx hb d_Model_leave_67 (by decide) ?_
            exact ret _ _ _ _ _ _ d_Model_leave_68 hw (absurd c9 (by rw [← hb1]; exact c6))
          · skip
            refine lv_iconst (v := 1) hx hb d_Model_leave_63 (by decide) ?_
            refine lv_goto (tgt := 68) hx hb d_Model_leave_64 (by decide) ?_
            exact ret _ _ _ _ _ _ d_Model_leave_68 hw (Or.inr ⟨j, hj, rfl, Or.inr ⟨c4, Or.inr ⟨b1, hb1, rfl, hm⟩⟩⟩)
      · skip
        refine lv_bipush (v := (-103)) hx hb d_Model_leave_24 (by decide) ?_
        exact ret _ _ _ _ _ _ d_Model_leave_26 hw (Or.inr ⟨j, hj, rfl, Or.inl ⟨c4, rfl, hm⟩⟩)
    · exact absurd c3 (by decide)
  · skip
    refine lv_if_ne (tgt := 15) hx hb d_Model_leave_9 (by decide) (fun c10 => ?_) (fun c10 => ?_)
    · exact absurd c10 (by decide)
    · skip
      refine lv_bipush (v := (-101)) hx hb d_Model_leave_12 (by decide) ?_
      exact ret _ _ _ _ _ _ d_Model_leave_14 hw (Or.inl ⟨z2, rfl, hm⟩)

abbrev rm_Model_agreement : Room := { frames := 2, cells := 0, slots := 0, locals := 45 }
set_option maxHeartbeats 4000000 in
set_option maxRecDepth 100000 in
theorem c_Model_agreement {l : Launch} {D : va_G} {ca : Nat → ClassId} {f : wd_M} {sz : Nat} (b : Nat) (AD : Nat → Nat) (th mo : Int32) (n : Nat) (nw : Int64) (lt : Int32) (du : Nat → Int64) (g : Nat → Nat → Int32) (hm : rM f ca b AD th mo n nw lt du g) (x y sd : Int32) : Met l y_Model_agreement (.code y_Model_agreement b_Model_agreement 8 (some .long) :: tb) rm_Model_agreement (va_Pc [.ref b, .int x, .int y, .int sd] (wd_preZ D classes (ty ca) f sz)) (va_Ql (fun r f' => (¬ (okK x ∧ okK y) ∧ r = -101 ∧ rM f' ca b AD 0 mo n nw lt du g) ∨ ∃ j1 j2 : Nat, j1 < 20 ∧ j2 < 20 ∧ x = nI j1 ∧ y = nI j2 ∧ (((¬ wi sd 1 ∨ nI j1 = nI j2) ∧ r = -102 ∧ rM f' ca b AD 0 mo n nw lt du g) ∨ (wi sd 1 ∧ ¬ nI j1 = nI j2 ∧ r = (nI (mgB (g 8) j1 j2 sd n)).toInt64 ∧ rM f' ca b AD 0 mo n nw lt du g))) (wd_B D classes f sz) (wd_A f sz)) 0 0 (wd_A f sz) := by
  refine wd_Ql (own := R_Model) (by decide) rfl (Nat.le_of_ble_eq_true rfl) ?_
  intro p e s m args below meth c Q X hK hw ret ls hl
  have hx := X.1
  have hb := X.2.1
  have hown := X.2.2.2.1
  have hts := X.2.2.2.2
  have hl : lv_has ls 8 [(0, .ref b), (1, .int x), (2, .int y), (3, .int sd)] := hl
  have hn : n ≤ 300 := hm.2.2.2.2
  refine lv_aload_n hx hb d_Model_agreement_0 rfl (lv_at hl 0 rfl) ?_
  refine lv_iconst (v := 0) hx hb d_Model_agreement_1 (by decide) ?_
  refine fp_Model_52 X hK hw hm.1 rfl rfl d_Model_agreement_2 (fun f1 H locs ef1 hw => ?_)
  have hm : rM f1 ca b AD 0 mo n nw lt du g := rM_obj hm ef1 hm.2.2.2.2
  refine lv_iload_n hx hb d_Model_agreement_5 rfl (lv_at hl 1 rfl) ?_
  refine wd_csi (As := [.int x]) (rest := []) X hK hw (c_Model_isClerk x) (cw_Model_90 hts rfl rfl ⟨(Nat.le_of_ble_eq_true rfl), (Nat.le_of_ble_eq_true rfl)⟩) rfl hl.1 rfl (Nat.le_of_ble_eq_true rfl) d_Model_agreement_6 ⟨(Nat.le_of_ble_eq_true rfl), (Nat.le_of_ble_eq_true rfl)⟩ (fun r hz => ?_)
  rcases hz with ⟨z2, rfl⟩ | ⟨z2, rfl⟩
  · skip
    obtain ⟨j1, hj1, hxj1⟩ := ok20 z2.1 z2.2
    subst hxj1
    refine lv_if_eq (tgt := 19) hx hb d_Model_agreement_9 (by decide) (fun c3 => ?_) (fun c3 => ?_)
    · exact absurd c3 (by decide)
    · skip
      refine lv_iload_n hx hb d_Model_agreement_12 rfl (lv_at hl 2 rfl) ?_
      refine wd_csi (As := [.int y]) (rest := []) X hK hw (c_Model_isClerk y) (cw_Model_90 hts rfl rfl ⟨(Nat.le_of_ble_eq_true rfl), (Nat.le_of_ble_eq_true rfl)⟩) rfl hl.1 rfl (Nat.le_of_ble_eq_true rfl) d_Model_agreement_13 ⟨(Nat.le_of_ble_eq_true rfl), (Nat.le_of_ble_eq_true rfl)⟩ (fun r hz => ?_)
      rcases hz with ⟨z4, rfl⟩ | ⟨z4, rfl⟩
      · skip
        obtain ⟨j2, hj2, hxj2⟩ := ok20 z4.1 z4.2
        subst hxj2
        refine lv_if_ne (tgt := 23) hx hb d_Model_agreement_16 (by decide) (fun c5 => ?_) (fun c5 => ?_)
        · skip
          refine lv_iload_n hx hb d_Model_agreement_23 rfl (lv_at hl 3 rfl) ?_
          refine lv_if_lt (tgt := 37) hx hb d_Model_agreement_24 (by decide) (fun c6 => ?_) (fun c6 => ?_)
          · skip
            refine lv_ldc2 (v := (-102)) hx hb hown (hts _ k_Model_121) d_Model_agreement_37 ?_
            exact ret _ _ _ _ _ _ d_Model_agreement_40 hw (Or.inr ⟨j1, j2, hj1, hj2, rfl, rfl, Or.inl ⟨Or.inl (fun q => q.1 c6), rfl, hm⟩⟩)
          · skip
            refine lv_iload_n hx hb d_Model_agreement_27 rfl (lv_at hl 3 rfl) ?_
            refine lv_iconst (v := 1) hx hb d_Model_agreement_28 (by decide) ?_
            refine lv_icmp_gt (tgt := 37) hx hb d_Model_agreement_29 (by decide) (fun c7 => ?_) (fun c7 => ?_)
            · skip
              refine lv_ldc2 (v := (-102)) hx hb hown (hts _ k_Model_121) d_Model_agreement_37 ?_
              exact ret _ _ _ _ _ _ d_Model_agreement_40 hw (Or.inr ⟨j1, j2, hj1, hj2, rfl, rfl, Or.inl ⟨Or.inl (fun q => q.2 c7), rfl, hm⟩⟩)
            · skip
              refine lv_iload_n hx hb d_Model_agreement_32 rfl (lv_at hl 1 rfl) ?_
              refine lv_iload_n hx hb d_Model_agreement_33 rfl (lv_at hl 2 rfl) ?_
              refine lv_icmp_ne (tgt := 41) hx hb d_Model_agreement_34 (by decide) (fun c8 => ?_) (fun c8 => ?_)
              · skip
                refine lv_iconst (v := 0) hx hb d_Model_agreement_41 (by decide) ?_
                refine lv_istore (lv' := [(4, .int 0), (0, .ref b), (1, .int (nI j1)), (2, .int (nI j2)), (3, .int sd)]) hx hb d_Model_agreement_42 hl (by decide) rfl (fun ls hl => ?_)
                refine lv_iconst (v := 1) hx hb d_Model_agreement_44 (by decide) ?_
                refine lv_istore (lv' := [(5, .int 1), (4, .int 0), (0, .ref b), (1, .int (nI j1)), (2, .int (nI j2)), (3, .int sd)]) hx hb d_Model_agreement_45 hl (by decide) rfl (fun ls hl => ?_)
                have loop : ∀ (d i : Nat) (k : Nat) (ls : Array Slot), n = i + d → k = mgB (g 8) j1 j2 sd i → lv_has ls 8 [(5, .int (nI (i + 1))), (4, .int (nI k)), (1, .int (nI j1)), (2, .int (nI j2)), (3, .int sd), (0, .ref b)] → W p l e rm_Model_agreement s m args below meth c H locs 0 0 Q (F0 m 47 ls []) := by
                  intro d
                  induction d with
                  | zero =>
                    intro i k ls hdd hk hl
                    have hin : i = n := by omega
                    refine lv_iload hx hb d_Model_agreement_47 (lv_at hl 0 rfl) ?_
                    refine lv_aload_n hx hb d_Model_agreement_49 rfl (lv_at hl 5 rfl) ?_
                    refine fg_Model_55 X hK hw hm.1 d_Model_agreement_50 ?_
                    refine lv_icmp_gt (tgt := 129) hx hb d_Model_agreement_53 (by decide) (fun _ => ?_) (fun c => absurd (nI_lt (by omega) (by omega)) c)
                    refine lv_iload hx hb d_Model_agreement_129 (lv_at hl 1 rfl) ?_
                    refine lv_i2l hx hb d_Model_agreement_131 rfl ?_
                    exact ret _ _ _ _ _ _ d_Model_agreement_132 hw (Or.inr ⟨j1, j2, hj1, hj2, rfl, rfl, Or.inr ⟨⟨c6, c7⟩, c8, by rw [hk, hin], hm⟩⟩)
                  | succ d ih =>
                    intro i k ls hdd hk hl
                    have hin : i < n := by omega
                    refine lv_iload hx hb d_Model_agreement_47 (lv_at hl 0 rfl) ?_
                    refine lv_aload_n hx hb d_Model_agreement_49 rfl (lv_at hl 5 rfl) ?_
                    refine fg_Model_55 X hK hw hm.1 d_Model_agreement_50 ?_
                    refine lv_icmp_gt (tgt := 129) hx hb d_Model_agreement_53 (by decide) (fun c => absurd c (nI_nlt (by omega) (by omega))) (fun _ => ?_)
                    refine lv_aload_n hx hb d_Model_agreement_56 rfl (lv_at hl 5 rfl) ?_
                    refine fg_Model_35 X hK hw hm.1 d_Model_agreement_57 ?_
                    refine lv_bipush (v := 20) hx hb d_Model_agreement_60 (by decide) ?_
                    refine lv_iload hx hb d_Model_agreement_62 (lv_at hl 0 rfl) ?_
                    refine lv_imul hx hb d_Model_agreement_64 ?_
                    refine lv_iload_n hx hb d_Model_agreement_65 rfl (lv_at hl 2 rfl) ?_
                    refine lv_iadd hx hb d_Model_agreement_66 ?_
                    refine lv_bipush (v := 20) hx hb d_Model_agreement_67 (by decide) ?_
                    refine lv_isub hx hb d_Model_agreement_69 ?_
                    rw [ix20 i j1]
                    refine m_ld X hK hw hm (k := 8) (j := 20 * i + j1) (by decide) (by decide) rfl (by show 20 * i + j1 < 6020; omega) d_Model_agreement_70 ?_
                    refine lv_istore (lv' := [(6, .int (g 8 (20 * i + j1))), (5, .int (nI (i + 1))), (4, .int (nI k)), (1, .int (nI j1)), (2, .int (nI j2)), (3, .int sd), (0, .ref b)]) hx hb d_Model_agreement_71 hl (by decide) rfl (fun ls hl => ?_)
                    refine lv_aload_n hx hb d_Model_agreement_73 rfl (lv_at hl 6 rfl) ?_
                    refine fg_Model_35 X hK hw hm.1 d_Model_agreement_74 ?_
                    refine lv_bipush (v := 20) hx hb d_Model_agreement_77 (by decide) ?_
                    refine lv_iload hx hb d_Model_agreement_79 (lv_at hl 1 rfl) ?_
                    refine lv_imul hx hb d_Model_agreement_81 ?_
                    refine lv_iload_n hx hb d_Model_agreement_82 rfl (lv_at hl 4 rfl) ?_
                    refine lv_iadd hx hb d_Model_agreement_83 ?_
                    refine lv_bipush (v := 20) hx hb d_Model_agreement_84 (by decide) ?_
                    refine lv_isub hx hb d_Model_agreement_86 ?_
                    rw [ix20 i j2]
                    refine m_ld X hK hw hm (k := 8) (j := 20 * i + j2) (by decide) (by decide) rfl (by show 20 * i + j2 < 6020; omega) d_Model_agreement_87 ?_
                    refine lv_istore (lv' := [(7, .int (g 8 (20 * i + j2))), (6, .int (g 8 (20 * i + j1))), (5, .int (nI (i + 1))), (4, .int (nI k)), (1, .int (nI j1)), (2, .int (nI j2)), (3, .int sd), (0, .ref b)]) hx hb d_Model_agreement_88 hl (by decide) rfl (fun ls hl => ?_)
                    refine lv_iload hx hb d_Model_agreement_90 (lv_at hl 1 rfl) ?_
                    refine lv_if_lt (tgt := 119) hx hb d_Model_agreement_92 (by decide) (fun c9 => ?_) (fun c9 => ?_)
                    · skip
                      refine lv_iload hx hb d_Model_agreement_119 (lv_at hl 3 rfl) ?_
                      refine lv_istore (lv' := [(4, .int (nI k)), (7, .int (g 8 (20 * i + j2))), (6, .int (g 8 (20 * i + j1))), (5, .int (nI (i + 1))), (1, .int (nI j1)), (2, .int (nI j2)), (3, .int sd), (0, .ref b)]) hx hb d_Model_agreement_121 hl (by decide) rfl (fun ls hl => ?_)
                      refine lv_iinc (v := ((nI (i + 1)) + 1)) (lv' := [(5, .int ((nI (i + 1)) + 1)), (4, .int (nI k)), (7, .int (g 8 (20 * i + j2))), (6, .int (g 8 (20 * i + j1))), (1, .int (nI j1)), (2, .int (nI j2)), (3, .int sd), (0, .ref b)]) hx hb d_Model_agreement_123 hl (k := 3) rfl rfl (by decide) rfl (fun ls hl => ?_)
                      refine lv_goto (tgt := 47) hx hb d_Model_agreement_126 (by decide) ?_
                      exact ih (i + 1) k ls (by omega) (by rw [hk]; exact (if_neg (fun q => q.1.1 c9)).symm) (by rw [nI_succ (i + 1)]; exact lv_sub hl [0, 1, 4, 5, 6, 7] rfl)
                    · skip
                      refine lv_iload hx hb d_Model_agreement_95 (lv_at hl 0 rfl) ?_
                      refine lv_if_lt (tgt := 119) hx hb d_Model_agreement_97 (by decide) (fun c10 => ?_) (fun c10 => ?_)
                      · skip
                        refine lv_iload hx hb d_Model_agreement_119 (lv_at hl 3 rfl) ?_
                        refine lv_istore (lv' := [(4, .int (nI k)), (7, .int (g 8 (20 * i + j2))), (6, .int (g 8 (20 * i + j1))), (5, .int (nI (i + 1))), (1, .int (nI j1)), (2, .int (nI j2)), (3, .int sd), (0, .ref b)]) hx hb d_Model_agreement_121 hl (by decide) rfl (fun ls hl => ?_)
                        refine lv_iinc (v := ((nI (i + 1)) + 1)) (lv' := [(5, .int ((nI (i + 1)) + 1)), (4, .int (nI k)), (7, .int (g 8 (20 * i + j2))), (6, .int (g 8 (20 * i + j1))), (1, .int (nI j1)), (2, .int (nI j2)), (3, .int sd), (0, .ref b)]) hx hb d_Model_agreement_123 hl (k := 3) rfl rfl (by decide) rfl (fun ls hl => ?_)
                        refine lv_goto (tgt := 47) hx hb d_Model_agreement_126 (by decide) ?_
                        exact ih (i + 1) k ls (by omega) (by rw [hk]; exact (if_neg (fun q => q.1.2 c10)).symm) (by rw [nI_succ (i + 1)]; exact lv_sub hl [0, 1, 4, 5, 6, 7] rfl)
                      · skip
                        refine lv_iload_n hx hb d_Model_agreement_100 rfl (lv_at hl 6 rfl) ?_
                        refine lv_iconst (v := 1) hx hb d_Model_agreement_101 (by decide) ?_
                        refine lv_icmp_eq (tgt := 112) hx hb d_Model_agreement_102 (by decide) (fun c11 => ?_) (fun c11 => ?_)
                        · skip
                          refine lv_iload hx hb d_Model_agreement_112 (lv_at hl 3 rfl) ?_
                          refine lv_iconst (v := 1) hx hb d_Model_agreement_114 (by decide) ?_
                          refine lv_iadd hx hb d_Model_agreement_115 ?_
                          refine lv_goto (tgt := 121) hx hb d_Model_agreement_116 (by decide) ?_
                          refine lv_istore (lv' := [(4, .int ((nI k) + 1)), (7, .int (g 8 (20 * i + j2))), (6, .int (g 8 (20 * i + j1))), (5, .int (nI (i + 1))), (1, .int (nI j1)), (2, .int (nI j2)), (3, .int sd), (0, .ref b)]) hx hb d_Model_agreement_121 hl (by decide) rfl (fun ls hl => ?_)
                          refine lv_iinc (v := ((nI (i + 1)) + 1)) (lv' := [(5, .int ((nI (i + 1)) + 1)), (4, .int ((nI k) + 1)), (7, .int (g 8 (20 * i + j2))), (6, .int (g 8 (20 * i + j1))), (1, .int (nI j1)), (2, .int (nI j2)), (3, .int sd), (0, .ref b)]) hx hb d_Model_agreement_123 hl (k := 3) rfl rfl (by decide) rfl (fun ls hl => ?_)
                          refine lv_goto (tgt := 47) hx hb d_Model_agreement_126 (by decide) ?_
                          exact ih (i + 1) (k + 1) ls (by omega) (by rw [hk]; exact (if_pos ⟨⟨c9, c10⟩, Or.inl c11⟩).symm) (by rw [nI_succ (i + 1), nI_succ k]; exact lv_sub hl [0, 1, 4, 5, 6, 7] rfl)
                        · skip
                          refine lv_iload hx hb d_Model_agreement_105 (lv_at hl 1 rfl) ?_
                          refine lv_iload hx hb d_Model_agreement_107 (lv_at hl 0 rfl) ?_
                          refine lv_icmp_ne (tgt := 119) hx hb d_Model_agreement_109 (by decide) (fun c12 => ?_) (fun c12 => ?_)
                          · skip
                            refine lv_iload hx hb d_Model_agreement_119 (lv_at hl 3 rfl) ?_
                            refine lv_istore (lv' := [(4, .int (nI k)), (7, .int (g 8 (20 * i + j2))), (6, .int (g 8 (20 * i + j1))), (5, .int (nI (i + 1))), (1, .int (nI j1)), (2, .int (nI j2)), (3, .int sd), (0, .ref b)]) hx hb d_Model_agreement_121 hl (by decide) rfl (fun ls hl => ?_)
                            refine lv_iinc (v := ((nI (i + 1)) + 1)) (lv' := [(5, .int ((nI (i + 1)) + 1)), (4, .int (nI k)), (7, .int (g 8 (20 * i + j2))), (6, .int (g 8 (20 * i + j1))), (1, .int (nI j1)), (2, .int (nI j2)), (3, .int sd), (0, .ref b)]) hx hb d_Model_agreement_123 hl (k := 3) rfl rfl (by decide) rfl (fun ls hl => ?_)
                            refine lv_goto (tgt := 47) hx hb d_Model_agreement_126 (by decide) ?_
                            exact ih (i + 1) k ls (by omega) (by rw [hk]; exact (if_neg (fun q => Or.elim q.2 c11 c12)).symm) (by rw [nI_succ (i + 1)]; exact lv_sub hl [0, 1, 4, 5, 6, 7] rfl)
                          · skip
                            refine lv_iload hx hb d_Model_agreement_112 (lv_at hl 3 rfl) ?_
                            refine lv_iconst (v := 1) hx hb d_Model_agreement_114 (by decide) ?_
                            refine lv_iadd hx hb d_Model_agreement_115 ?_
                            refine lv_goto (tgt := 121) hx hb d_Model_agreement_116 (by decide) ?_
                            refine lv_istore (lv' := [(4, .int ((nI k) + 1)), (7, .int (g 8 (20 * i + j2))), (6, .int (g 8 (20 * i + j1))), (5, .int (nI (i + 1))), (1, .int (nI j1)), (2, .int (nI j2)), (3, .int sd), (0, .ref b)]) hx hb d_Model_agreement_121 hl (by decide) rfl (fun ls hl => ?_)
                            refine lv_iinc (v := ((nI (i + 1)) + 1)) (lv' := [(5, .int ((nI (i + 1)) + 1)), (4, .int ((nI k) + 1)), (7, .int (g 8 (20 * i + j2))), (6, .int (g 8 (20 * i + j1))), (1, .int (nI j1)), (2, .int (nI j2)), (3, .int sd), (0, .ref b)]) hx hb d_Model_agreement_123 hl (k := 3) rfl rfl (by decide) rfl (fun ls hl => ?_)
                            refine lv_goto (tgt := 47) hx hb d_Model_agreement_126 (by decide) ?_
                            exact ih (i + 1) (k + 1) ls (by omega) (by rw [hk]; exact (if_pos ⟨⟨c9, c10⟩, Or.inr c12⟩).symm) (by rw [nI_succ (i + 1), nI_succ k]; exact lv_sub hl [0, 1, 4, 5, 6, 7] rfl)
                exact loop n 0 0 ls (Nat.zero_add _).symm rfl (lv_sub hl [0, 1, 3, 4, 5, 2] rfl)
              · skip
                refine lv_ldc2 (v := (-102)) hx hb hown (hts _ k_Model_121) d_Model_agreement_37 ?_
                exact ret _ _ _ _ _ _ d_Model_agreement_40 hw (Or.inr ⟨j1, j2, hj1, hj2, rfl, rfl, Or.inl ⟨Or.inr c8, rfl, hm⟩⟩)
        · exact absurd c5 (by decide)
      · skip
        refine lv_if_ne (tgt := 23) hx hb d_Model_agreement_16 (by decide) (fun c13 => ?_) (fun c13 => ?_)
        · exact absurd c13 (by decide)
        · skip
          refine lv_ldc2 (v := (-101)) hx hb hown (hts _ k_Model_119) d_Model_agreement_19 ?_
          exact ret _ _ _ _ _ _ d_Model_agreement_22 hw (Or.inl ⟨(fun q => z4 q.2), rfl, hm⟩)
  · skip
    refine lv_if_eq (tgt := 19) hx hb d_Model_agreement_9 (by decide) (fun c14 => ?_) (fun c14 => ?_)
    · skip
      refine lv_ldc2 (v := (-101)) hx hb hown (hts _ k_Model_119) d_Model_agreement_19 ?_
      exact ret _ _ _ _ _ _ d_Model_agreement_22 hw (Or.inl ⟨(fun q => z2 q.1), rfl, hm⟩)
    · exact absurd c14 (by decide)
end
section
abbrev tA (G : Nat → Nat → Int32) (i k : Nat) (x : Int32) : Nat → Nat → Int32 := va_up (va_up G 5 (upd (G 5) (3 * (i + 1) + k) x)) 4 (upd ((va_up G 5 (upd (G 5) (3 * (i + 1) + k) x)) 4) (i + 1) (((va_up G 5 (upd (G 5) (3 * (i + 1) + k) x)) 4 (i + 1)) + 1))
abbrev tB (G : Nat → Nat → Int32) (i k : Nat) (x : Int32) : Nat → Nat → Int32 := va_up (va_up (tA G i k x) 2 (upd ((tA G i k x) 2) (i + 1) (if x ≤ 0 then 3 else 2))) 3 (upd ((va_up (tA G i k x) 2 (upd ((tA G i k x) 2) (i + 1) (if x ≤ 0 then 3 else 2))) 3) (i + 1) x)
abbrev tC (G : Nat → Nat → Int32) (i k : Nat) (x : Int32) : Nat → Nat → Int32 := va_up (tA G i k x) 2 (upd ((tA G i k x) 2) (i + 1) 3)
abbrev pG (g : Nat → Nat → Int32) (t : Int64) (du : Nat → Int64) (n : Nat) : Nat → Nat → Int32 := va_up g 2 (mE t du (g 2) n)
abbrev aG (g : Nat → Nat → Int32) (t : Int64) (du : Nat → Int64) (n i j : Nat) (en : Int32) : Nat → Nat → Int32 := va_up (va_up (pG g t du n) 6 (upd ((pG g t du n) 6) (20 * i + j) 3)) 8 (upd ((va_up (pG g t du n) 6 (upd ((pG g t du n) 6) (20 * i + j) 3)) 8) (20 * i + j) en)
abbrev gG (G : Nat → Nat → Int32) (b1 j : Nat) : Nat → Nat → Int32 := va_up (va_up G 6 (upd (G 6) (20 * b1 + j) 2)) 7 (upd ((va_up G 6 (upd (G 6) (20 * b1 + j) 2)) 7) (20 * b1 + j) ((va_up G 6 (upd (G 6) (20 * b1 + j) 2)) 10 j))
theorem mE_z {t : Int64} {du : Nat → Int64} {e : Nat → Int32} {n p : Nat} (h : mE t du e n p = 0) : e p = 0 := by
  unfold mE at h
  split at h
  · exact absurd h (by decide)
  · exact h
end
section
abbrev rm_Model_take : Room := { frames := 0, cells := 0, slots := 0, locals := 0 }
set_option maxHeartbeats 4000000 in
set_option maxRecDepth 100000 in
theorem c_Model_take {l : Launch} {D : va_G} {ca : Nat → ClassId} {f : wd_M} {sz : Nat} (b : Nat) (AD : Nat → Nat) (th mo : Int32) (n : Nat) (nw : Int64) (lt : Int32) (du : Nat → Int64) (g : Nat → Nat → Int32) (hm : rM f ca b AD th mo n nw lt du g) (i : Nat) (hi : i < n) (k : Nat) (hk4 : g 4 (i + 1) = nI k) (hk2 : k ≤ 2) (x : Int32) : Met l y_Model_take (.code y_Model_take b_Model_take 6 none :: tb) rm_Model_take (va_Pc [.ref b, .int (nI (i + 1)), .int x] (wd_preZ D classes (ty ca) f sz)) (va_Qv (fun f' => (bl (g 5) i x k = true ∧ rM f' ca b AD th mo n nw lt du (tB g i k x)) ∨ (¬ bl (g 5) i x k = true ∧ nI k = 2 ∧ rM f' ca b AD th mo n nw lt du (tC g i k x)) ∨ (¬ bl (g 5) i x k = true ∧ ¬ nI k = 2 ∧ rM f' ca b AD th mo n nw lt du (tA g i k x))) (wd_B D classes f sz) (wd_A f sz)) 0 0 (wd_A f sz) := by
  refine wd_Qv (own := R_Model) (by decide) rfl (Nat.le_of_ble_eq_true rfl) ?_
  intro p e s m args below meth c Q X hK hnm hw ret ls hl
  have hx := X.1
  have hb := X.2.1
  have hown := X.2.2.2.1
  have hts := X.2.2.2.2
  have hl : lv_has ls 6 [(0, .ref b), (1, .int (nI (i + 1))), (2, .int x)] := hl
  have hn : n ≤ 300 := hm.2.2.2.2
  refine lv_aload_n hx hb d_Model_take_0 rfl (lv_at hl 0 rfl) ?_
  refine fg_Model_23 X hK hw hm.1 d_Model_take_1 ?_
  refine lv_iload_n hx hb d_Model_take_4 rfl (lv_at hl 1 rfl) ?_
  refine m_ld X hK hw hm (k := 4) (j := i + 1) (by decide) (by decide) rfl (by show i + 1 < 301; omega) d_Model_take_5 ?_
  rw [hk4]
  refine lv_istore_n (lv' := [(3, .int (nI k)), (0, .ref b), (1, .int (nI (i + 1))), (2, .int x)]) hx hb d_Model_take_6 rfl hl (by decide) rfl (fun ls hl => ?_)
  refine lv_iconst (v := 0) hx hb d_Model_take_7 (by decide) ?_
  refine lv_istore (lv' := [(4, .int 0), (3, .int (nI k)), (0, .ref b), (1, .int (nI (i + 1))), (2, .int x)]) hx hb d_Model_take_8 hl (by decide) rfl (fun ls hl => ?_)
  refine lv_iconst (v := 0) hx hb d_Model_take_10 (by decide) ?_
  refine lv_istore (lv' := [(5, .int 0), (4, .int 0), (3, .int (nI k)), (0, .ref b), (1, .int (nI (i + 1))), (2, .int x)]) hx hb d_Model_take_11 hl (by decide) rfl (fun ls hl => ?_)
  have loop : ∀ (d mk : Nat) (bb : Bool) (ls : Array Slot), k = mk + d → bb = bl (g 5) i x mk → lv_has ls 6 [(5, .int (nI mk)), (4, .int (zi bb)), (3, .int (nI k)), (1, .int (nI (i + 1))), (2, .int x), (0, .ref b)] → W p l e rm_Model_take s m args below meth c s.heap [] 0 0 Q (F0 m 13 ls []) := by
    intro d
    induction d with
    | zero =>
      intro mk bb ls hdd hbb hl
      have hin : mk = k := by omega
      refine lv_iload hx hb d_Model_take_13 (lv_at hl 0 rfl) ?_
      refine lv_iload_n hx hb d_Model_take_15 rfl (lv_at hl 2 rfl) ?_
      refine lv_icmp_ge (tgt := 52) hx hb d_Model_take_16 (by decide) (fun _ => ?_) (fun c => absurd (nI_le (Nat.le_of_eq hin.symm) (by omega)) c)
      refine lv_aload_n hx hb d_Model_take_52 rfl (lv_at hl 5 rfl) ?_
      refine fg_Model_26 X hK hw hm.1 d_Model_take_53 ?_
      refine lv_iconst (v := 3) hx hb d_Model_take_56 (by decide) ?_
      refine lv_iload_n hx hb d_Model_take_57 rfl (lv_at hl 3 rfl) ?_
      refine lv_imul hx hb d_Model_take_58 ?_
      refine lv_iload_n hx hb d_Model_take_59 rfl (lv_at hl 2 rfl) ?_
      refine lv_iadd hx hb d_Model_take_60 ?_
      refine lv_iload_n hx hb d_Model_take_61 rfl (lv_at hl 4 rfl) ?_
      rw [ix3k (i + 1) k]
      refine m_st X hK hw hm (k := 5) (j := 3 * (i + 1) + k) (by decide) (by decide) rfl (by show 3 * (i + 1) + k < 903; omega) d_Model_take_62 (fun f1 H locs hm hw => ?_)
      refine lv_aload_n hx hb d_Model_take_63 rfl (lv_at hl 5 rfl) ?_
      refine fg_Model_23 X hK hw hm.1 d_Model_take_64 ?_
      refine lv_iload_n hx hb d_Model_take_67 rfl (lv_at hl 3 rfl) ?_
      refine lv_dup2_11 hx hb d_Model_take_68 rfl rfl ?_
      refine m_ld X hK hw hm (k := 4) (j := i + 1) (by decide) (by decide) rfl (by show i + 1 < 301; omega) d_Model_take_69 ?_
      refine lv_iconst (v := 1) hx hb d_Model_take_70 (by decide) ?_
      refine lv_iadd hx hb d_Model_take_71 ?_
      refine m_st X hK hw hm (k := 4) (j := i + 1) (by decide) (by decide) rfl (by show i + 1 < 301; omega) d_Model_take_72 (fun f2 H locs hm hw => ?_)
      cases bb with
      | false =>
        have hl : lv_has ls 6 [(5, .int (nI mk)), (4, .int 0), (3, .int (nI k)), (1, .int (nI (i + 1))), (2, .int x), (0, .ref b)] := hl
        refine lv_iload hx hb d_Model_take_73 (lv_at hl 1 rfl) ?_
        refine lv_if_eq (tgt := 103) hx hb d_Model_take_75 (by decide) (fun c3 => ?_) (fun c3 => ?_)
        · skip
          refine lv_iload_n hx hb d_Model_take_103 rfl (lv_at hl 2 rfl) ?_
          refine lv_iconst (v := 2) hx hb d_Model_take_104 (by decide) ?_
          refine lv_icmp_ne (tgt := 115) hx hb d_Model_take_105 (by decide) (fun c4 => ?_) (fun c4 => ?_)
          · skip
            exact ret _ _ _ _ _ d_Model_take_115 hw (Or.inr (Or.inr ⟨(by rw [← hin, ← hbb]; exact fun q => by cases q), c4, hm⟩))
          · skip
            refine lv_aload_n hx hb d_Model_take_108 rfl (lv_at hl 5 rfl) ?_
            refine fg_Model_17 X hK hw hm.1 d_Model_take_109 ?_
            refine lv_iload_n hx hb d_Model_take_112 rfl (lv_at hl 3 rfl) ?_
            refine lv_iconst (v := 3) hx hb d_Model_take_113 (by decide) ?_
            refine m_st X hK hw hm (k := 2) (j := i + 1) (by decide) (by decide) rfl (by show i + 1 < 301; omega) d_Model_take_114 (fun f5 H locs hm hw => ?_)
            exact ret _ _ _ _ _ d_Model_take_115 hw (Or.inr (Or.inl ⟨(by rw [← hin, ← hbb]; exact fun q => by cases q), c4, hm⟩))
        · exact absurd c3 (by decide)
      | true =>
        have hl : lv_has ls 6 [(5, .int (nI mk)), (4, .int 1), (3, .int (nI k)), (1, .int (nI (i + 1))), (2, .int x), (0, .ref b)] := hl
        refine lv_iload hx hb d_Model_take_73 (lv_at hl 1 rfl) ?_
        refine lv_if_eq (tgt := 103) hx hb d_Model_take_75 (by decide) (fun c6 => ?_) (fun c6 => ?_)
        · exact absurd c6 (by decide)
        · skip
          refine lv_aload_n hx hb d_Model_take_78 rfl (lv_at hl 5 rfl) ?_
          refine fg_Model_17 X hK hw hm.1 d_Model_take_79 ?_
          refine lv_iload_n hx hb d_Model_take_82 rfl (lv_at hl 3 rfl) ?_
          refine lv_iload_n hx hb d_Model_take_83 rfl (lv_at hl 4 rfl) ?_
          refine lv_if_le (tgt := 91) hx hb d_Model_take_84 (by decide) (fun c7 => ?_) (fun c7 => ?_)
          · skip
            refine lv_iconst (v := 3) hx hb d_Model_take_91 (by decide) ?_
            refine m_st X hK hw hm (k := 2) (j := i + 1) (by decide) (by decide) rfl (by show i + 1 < 301; omega) d_Model_take_92 (fun f8 H locs hm hw => ?_)
            refine lv_aload_n hx hb d_Model_take_93 rfl (lv_at hl 5 rfl) ?_
            refine fg_Model_20 X hK hw hm.1 d_Model_take_94 ?_
            refine lv_iload_n hx hb d_Model_take_97 rfl (lv_at hl 3 rfl) ?_
            refine lv_iload_n hx hb d_Model_take_98 rfl (lv_at hl 4 rfl) ?_
            refine m_st X hK hw hm (k := 3) (j := i + 1) (by decide) (by decide) rfl (by show i + 1 < 301; omega) d_Model_take_99 (fun f9 H locs hm hw => ?_)
            refine lv_goto (tgt := 115) hx hb d_Model_take_100 (by decide) ?_
            exact ret _ _ _ _ _ d_Model_take_115 hw (Or.inl ⟨by rw [← hin, ← hbb], by unfold tB; rw [if_pos c7]; exact hm⟩)
          · skip
            refine lv_iconst (v := 2) hx hb d_Model_take_87 (by decide) ?_
            refine lv_goto (tgt := 92) hx hb d_Model_take_88 (by decide) ?_
            refine m_st X hK hw hm (k := 2) (j := i + 1) (by decide) (by decide) rfl (by show i + 1 < 301; omega) d_Model_take_92 (fun f10 H locs hm hw => ?_)
            refine lv_aload_n hx hb d_Model_take_93 rfl (lv_at hl 5 rfl) ?_
            refine fg_Model_20 X hK hw hm.1 d_Model_take_94 ?_
            refine lv_iload_n hx hb d_Model_take_97 rfl (lv_at hl 3 rfl) ?_
            refine lv_iload_n hx hb d_Model_take_98 rfl (lv_at hl 4 rfl) ?_
            refine m_st X hK hw hm (k := 3) (j := i + 1) (by decide) (by decide) rfl (by show i + 1 < 301; omega) d_Model_take_99 (fun f11 H locs hm hw => ?_)
            refine lv_goto (tgt := 115) hx hb d_Model_take_100 (by decide) ?_
            exact ret _ _ _ _ _ d_Model_take_115 hw (Or.inl ⟨by rw [← hin, ← hbb], by unfold tB; rw [if_neg c7]; exact hm⟩)
    | succ d ih =>
      intro mk bb ls hdd hbb hl
      have hin : mk < k := by omega
      refine lv_iload hx hb d_Model_take_13 (lv_at hl 0 rfl) ?_
      refine lv_iload_n hx hb d_Model_take_15 rfl (lv_at hl 2 rfl) ?_
      refine lv_icmp_ge (tgt := 52) hx hb d_Model_take_16 (by decide) (fun c => absurd c (nI_ge hin (by omega))) (fun _ => ?_)
      cases bb with
      | false =>
        have hl : lv_has ls 6 [(5, .int (nI mk)), (4, .int 0), (3, .int (nI k)), (1, .int (nI (i + 1))), (2, .int x), (0, .ref b)] := hl
        refine lv_iload hx hb d_Model_take_19 (lv_at hl 1 rfl) ?_
        refine lv_if_ne (tgt := 39) hx hb d_Model_take_21 (by decide) (fun c12 => ?_) (fun c12 => ?_)
        · exact absurd c12 (by decide)
        · skip
          refine lv_aload_n hx hb d_Model_take_24 rfl (lv_at hl 5 rfl) ?_
          refine fg_Model_26 X hK hw hm.1 d_Model_take_25 ?_
          refine lv_iconst (v := 3) hx hb d_Model_take_28 (by decide) ?_
          refine lv_iload_n hx hb d_Model_take_29 rfl (lv_at hl 3 rfl) ?_
          refine lv_imul hx hb d_Model_take_30 ?_
          refine lv_iload hx hb d_Model_take_31 (lv_at hl 0 rfl) ?_
          refine lv_iadd hx hb d_Model_take_33 ?_
          rw [ix3k (i + 1) mk]
          refine m_ld X hK hw hm (k := 5) (j := 3 * (i + 1) + mk) (by decide) (by decide) rfl (by show 3 * (i + 1) + mk < 903; omega) d_Model_take_34 ?_
          refine lv_iload_n hx hb d_Model_take_35 rfl (lv_at hl 4 rfl) ?_
          refine lv_icmp_ne (tgt := 43) hx hb d_Model_take_36 (by decide) (fun c13 => ?_) (fun c13 => ?_)
          · skip
            refine lv_iconst (v := 0) hx hb d_Model_take_43 (by decide) ?_
            refine lv_istore (lv' := [(4, .int 0), (5, .int (nI mk)), (3, .int (nI k)), (1, .int (nI (i + 1))), (2, .int x), (0, .ref b)]) hx hb d_Model_take_44 hl (by decide) rfl (fun ls hl => ?_)
            refine lv_iinc (v := ((nI mk) + 1)) (lv' := [(5, .int ((nI mk) + 1)), (4, .int 0), (3, .int (nI k)), (1, .int (nI (i + 1))), (2, .int x), (0, .ref b)]) hx hb d_Model_take_46 hl (k := 1) rfl rfl (by decide) rfl (fun ls hl => ?_)
            refine lv_goto (tgt := 13) hx hb d_Model_take_49 (by decide) ?_
            exact ih (mk + 1) false ls (by omega) (by simp [bl, ← hbb, c13]) (by rw [nI_succ mk]; exact lv_sub hl [0, 1, 2, 3, 4, 5] rfl)
          · skip
            refine lv_iconst (v := 1) hx hb d_Model_take_39 (by decide) ?_
            refine lv_goto (tgt := 44) hx hb d_Model_take_40 (by decide) ?_
            refine lv_istore (lv' := [(4, .int 1), (5, .int (nI mk)), (3, .int (nI k)), (1, .int (nI (i + 1))), (2, .int x), (0, .ref b)]) hx hb d_Model_take_44 hl (by decide) rfl (fun ls hl => ?_)
            refine lv_iinc (v := ((nI mk) + 1)) (lv' := [(5, .int ((nI mk) + 1)), (4, .int 1), (3, .int (nI k)), (1, .int (nI (i + 1))), (2, .int x), (0, .ref b)]) hx hb d_Model_take_46 hl (k := 1) rfl rfl (by decide) rfl (fun ls hl => ?_)
            refine lv_goto (tgt := 13) hx hb d_Model_take_49 (by decide) ?_
            exact ih (mk + 1) true ls (by omega) (by simp [bl, ← hbb, c13]) (by rw [nI_succ mk]; exact lv_sub hl [0, 1, 2, 3, 4, 5] rfl)
      | true =>
        have hl : lv_has ls 6 [(5, .int (nI mk)), (4, .int 1), (3, .int (nI k)), (1, .int (nI (i + 1))), (2, .int x), (0, .ref b)] := hl
        refine lv_iload hx hb d_Model_take_19 (lv_at hl 1 rfl) ?_
        refine lv_if_ne (tgt := 39) hx hb d_Model_take_21 (by decide) (fun c14 => ?_) (fun c14 => ?_)
        · skip
          refine lv_iconst (v := 1) hx hb d_Model_take_39 (by decide) ?_
          refine lv_goto (tgt := 44) hx hb d_Model_take_40 (by decide) ?_
          refine lv_istore (lv' := [(4, .int 1), (5, .int (nI mk)), (3, .int (nI k)), (1, .int (nI (i + 1))), (2, .int x), (0, .ref b)]) hx hb d_Model_take_44 hl (by decide) rfl (fun ls hl => ?_)
          refine lv_iinc (v := ((nI mk) + 1)) (lv' := [(5, .int ((nI mk) + 1)), (4, .int 1), (3, .int (nI k)), (1, .int (nI (i + 1))), (2, .int x), (0, .ref b)]) hx hb d_Model_take_46 hl (k := 1) rfl rfl (by decide) rfl (fun ls hl => ?_)
          refine lv_goto (tgt := 13) hx hb d_Model_take_49 (by decide) ?_
          exact ih (mk + 1) true ls (by omega) (by simp [bl, ← hbb]) (by rw [nI_succ mk]; exact lv_sub hl [0, 1, 2, 3, 4, 5] rfl)
        · exact absurd c14 (by decide)
  exact loop k 0 false ls (Nat.zero_add _).symm rfl (lv_sub hl [0, 1, 2, 4, 5, 3] rfl)

abbrev rm_Model_give : Room := { frames := 3, cells := 0, slots := 0, locals := 69 }
set_option maxHeartbeats 4000000 in
set_option maxRecDepth 100000 in
theorem c_Model_give {l : Launch} {D : va_G} {ca : Nat → ClassId} {f : wd_M} {sz : Nat} (b : Nat) (AD : Nat → Nat) (th mo : Int32) (n : Nat) (nw : Int64) (lt : Int32) (du : Nat → Int64) (g : Nat → Nat → Int32) (hm : rM f ca b AD th mo n nw lt du g) (x : Int32) (t : Int64) : Met l y_Model_give (.code y_Model_give b_Model_give 6 (some .int) :: tb) rm_Model_give (va_Pc [.ref b, .int x, .long t] (wd_preZ D classes (ty ca) f sz)) (va_Qi (fun r f' => (¬ okK x ∧ r = -101 ∧ rM f' ca b AD 0 mo n nw lt du g) ∨ ∃ j : Nat, j < 20 ∧ x = nI j ∧ ((¬ isT nw t ∧ r = -102 ∧ rM f' ca b AD 0 mo n nw lt du g) ∨ (isT nw t ∧ (((g 9 j = 0 ∨ ¬ nI (hd (g 6) j n) ≤ 0) ∧ r = -103 ∧ rM f' ca b AD 0 mo n nw lt du g) ∨ ((¬ g 9 j = 0 ∧ nI (hd (g 6) j n) ≤ 0) ∧ ((mbs du (fun i => decide (mfr (pG g t du n) i j)) n n = 0 ∧ r = 0 ∧ rM f' ca b AD 0 mo n t (lt + nI (mC t du (g 2) n)) du (pG g t du n)) ∨ ∃ b1 : Nat, mbs du (fun i => decide (mfr (pG g t du n) i j)) n n = b1 + 1 ∧ r = nI (b1 + 1) ∧ rM f' ca b AD 0 mo n t (lt + nI (mC t du (g 2) n)) du (gG (pG g t du n) b1 j))))))) (wd_B D classes f sz) (wd_A f sz)) 0 0 (wd_A f sz) := by
  refine wd_Qi (own := R_Model) (by decide) rfl (Nat.le_of_ble_eq_true rfl) ?_
  intro p e s m args below meth c Q X hK hw ret ls hl
  have hx := X.1
  have hb := X.2.1
  have hown := X.2.2.2.1
  have hts := X.2.2.2.2
  have hl : lv_has ls 6 [(0, .ref b), (1, .int x), (2, .long t)] := hl
  have hn : n ≤ 300 := hm.2.2.2.2
  refine lv_aload_n hx hb d_Model_give_0 rfl (lv_at hl 0 rfl) ?_
  refine lv_iconst (v := 0) hx hb d_Model_give_1 (by decide) ?_
  refine fp_Model_52 X hK hw hm.1 rfl rfl d_Model_give_2 (fun f1 H locs ef1 hw => ?_)
  have hm : rM f1 ca b AD 0 mo n nw lt du g := rM_obj hm ef1 hm.2.2.2.2
  refine lv_iload_n hx hb d_Model_give_5 rfl (lv_at hl 1 rfl) ?_
  refine wd_csi (As := [.int x]) (rest := []) X hK hw (c_Model_isClerk x) (cw_Model_90 hts rfl rfl ⟨(Nat.le_of_ble_eq_true rfl), (Nat.le_of_ble_eq_true rfl)⟩) rfl hl.1 rfl (Nat.le_of_ble_eq_true rfl) d_Model_give_6 ⟨(Nat.le_of_ble_eq_true rfl), (Nat.le_of_ble_eq_true rfl)⟩ (fun r hz => ?_)
  rcases hz with ⟨z2, rfl⟩ | ⟨z2, rfl⟩
  · skip
    obtain ⟨j, hj, hxj⟩ := ok20 z2.1 z2.2
    subst hxj
    refine lv_if_ne (tgt := 15) hx hb d_Model_give_9 (by decide) (fun c3 => ?_) (fun c3 => ?_)
    · skip
      refine lv_aload_n hx hb d_Model_give_15 rfl (lv_at hl 0 rfl) ?_
      refine lv_lload_n hx hb d_Model_give_16 rfl (lv_at hl 2 rfl) ?_
      refine wd_cvi (As := [.long t]) (rest := []) X hK hw (c_Model_isTime b AD 0 mo n nw lt du g hm t) (cw_Model_70 hts rfl rfl ⟨(Nat.le_of_ble_eq_true rfl), (Nat.le_of_ble_eq_true rfl)⟩) hm.1 rfl rfl rfl hl.1 rfl (Nat.le_of_ble_eq_true rfl) d_Model_give_17 ⟨(Nat.le_of_ble_eq_true rfl), (Nat.le_of_ble_eq_true rfl)⟩ (fun r hz => ?_)
      rcases hz with ⟨z4, rfl⟩ | ⟨z4, rfl⟩
      · skip
        refine lv_if_ne (tgt := 26) hx hb d_Model_give_20 (by decide) (fun c5 => ?_) (fun c5 => ?_)
        · skip
          refine lv_aload_n hx hb d_Model_give_26 rfl (lv_at hl 0 rfl) ?_
          refine fg_Model_38 X hK hw hm.1 d_Model_give_27 ?_
          refine lv_iload_n hx hb d_Model_give_30 rfl (lv_at hl 1 rfl) ?_
          refine m_ldz X hK hw hm (j := j) (by omega) d_Model_give_31 ?_
          refine lv_if_eq (tgt := 43) hx hb d_Model_give_32 (by decide) (fun c6 => ?_) (fun c6 => ?_)
          · skip
            refine lv_bipush (v := (-103)) hx hb d_Model_give_43 (by decide) ?_
            exact ret _ _ _ _ _ _ d_Model_give_45 hw (Or.inr ⟨j, hj, rfl, Or.inr ⟨z4, Or.inl ⟨Or.inl c6, rfl, hm⟩⟩⟩)
          · skip
            refine lv_aload_n hx hb d_Model_give_35 rfl (lv_at hl 0 rfl) ?_
            refine lv_iload_n hx hb d_Model_give_36 rfl (lv_at hl 1 rfl) ?_
            refine wd_cvi (As := [.int (nI j)]) (rest := []) X hK hw (c_Model_held b AD 0 mo n nw lt du g hm j hj) (cw_Model_93 hts rfl rfl ⟨(Nat.le_of_ble_eq_true rfl), (Nat.le_of_ble_eq_true rfl)⟩) hm.1 rfl rfl rfl hl.1 rfl (Nat.le_of_ble_eq_true rfl) d_Model_give_37 ⟨(Nat.le_of_ble_eq_true rfl), (Nat.le_of_ble_eq_true rfl)⟩ (fun r hz => ?_)
            subst hz
            refine lv_if_le (tgt := 46) hx hb d_Model_give_40 (by decide) (fun c7 => ?_) (fun c7 => ?_)
            · skip
              refine lv_aload_n hx hb d_Model_give_46 rfl (lv_at hl 0 rfl) ?_
              refine lv_lload_n hx hb d_Model_give_47 rfl (lv_at hl 2 rfl) ?_
              refine wd_mvv (As := [.long t]) (rest := []) X hK hw (c_Model_pass b AD 0 mo n nw lt du g hm t) (cw_Model_97 hts rfl rfl ⟨(Nat.le_of_ble_eq_true rfl), (Nat.le_of_ble_eq_true rfl)⟩) hm.1 rfl rfl rfl hl.1 rfl (Nat.le_of_ble_eq_true rfl) d_Model_give_48 ⟨(Nat.le_of_ble_eq_true rfl), (Nat.le_of_ble_eq_true rfl)⟩ (fun f8 H locs hm hw => ?_)
              refine lv_iconst (v := 0) hx hb d_Model_give_51 (by decide) ?_
              refine lv_istore (lv' := [(4, .int 0), (0, .ref b), (1, .int (nI j)), (2, .long t)]) hx hb d_Model_give_52 hl (by decide) rfl (fun ls hl => ?_)
              refine lv_aload_n hx hb d_Model_give_54 rfl (lv_at hl 1 rfl) ?_
              refine fg_Model_55 X hK hw hm.1 d_Model_give_55 ?_
              refine lv_istore (lv' := [(5, .int (nI n)), (4, .int 0), (0, .ref b), (1, .int (nI j)), (2, .long t)]) hx hb d_Model_give_58 hl (by decide) rfl (fun ls hl => ?_)
              have loop : ∀ (q k : Nat) (ls : Array Slot), q ≤ n → k = mbs du (fun i => decide (mfr (pG g t du n) i j)) n (n - q) → lv_has ls 6 [(5, .int (nI q)), (4, .int (nI k)), (0, .ref b), (1, .int (nI j)), (2, .long t)] → W p l e rm_Model_give s m args below meth c H locs 0 0 Q (F0 m 60 ls []) := by
                intro q
                induction q with
                | zero =>
                  intro k ls hqn hkk hl
                  have hkn : k ≤ n := by rw [hkk]; exact mbs_le _
                  refine lv_iload hx hb d_Model_give_60 (lv_at hl 0 rfl) ?_
                  refine lv_if_le (tgt := 113) hx hb d_Model_give_62 (by decide) (fun _ => ?_) (fun c => absurd (by decide) c)
                  refine lv_iload hx hb d_Model_give_113 (lv_at hl 1 rfl) ?_
                  refine lv_if_le (tgt := 155) hx hb d_Model_give_115 (by decide) (fun c9 => ?_) (fun c9 => ?_)
                  · skip
                    refine lv_iload hx hb d_Model_give_155 (lv_at hl 1 rfl) ?_
                    exact ret _ _ _ _ _ _ d_Model_give_157 hw (Or.inr ⟨j, hj, rfl, Or.inr ⟨z4, Or.inr ⟨⟨c6, c7⟩, Or.inl ⟨hkk.symm.trans ((nI_le0 (by omega)).mp c9), by rw [(nI_le0 (by omega)).mp c9]; rfl, hm⟩⟩⟩⟩)
                  · skip
                    obtain ⟨b1, hb1⟩ : ∃ b1, k = b1 + 1 := ⟨k - 1, by have h0 : k ≠ 0 := fun q => c9 ((nI_le0 (by omega)).mpr q); omega⟩
                    subst hb1
                    refine lv_aload_n hx hb d_Model_give_118 rfl (lv_at hl 2 rfl) ?_
                    refine fg_Model_29 X hK hw hm.1 d_Model_give_119 ?_
                    refine lv_bipush (v := 20) hx hb d_Model_give_122 (by decide) ?_
                    refine lv_iload hx hb d_Model_give_124 (lv_at hl 1 rfl) ?_
                    refine lv_imul hx hb d_Model_give_126 ?_
                    refine lv_iload_n hx hb d_Model_give_127 rfl (lv_at hl 3 rfl) ?_
                    refine lv_iadd hx hb d_Model_give_128 ?_
                    refine lv_bipush (v := 20) hx hb d_Model_give_129 (by decide) ?_
                    refine lv_isub hx hb d_Model_give_131 ?_
                    refine lv_iconst (v := 2) hx hb d_Model_give_132 (by decide) ?_
                    rw [ix20 b1 j]
                    refine m_st X hK hw hm (k := 6) (j := 20 * b1 + j) (by decide) (by decide) rfl (by show 20 * b1 + j < 6020; omega) d_Model_give_133 (fun f10 H locs hm hw => ?_)
                    refine lv_aload_n hx hb d_Model_give_134 rfl (lv_at hl 2 rfl) ?_
                    refine fg_Model_32 X hK hw hm.1 d_Model_give_135 ?_
                    refine lv_bipush (v := 20) hx hb d_Model_give_138 (by decide) ?_
                    refine lv_iload hx hb d_Model_give_140 (lv_at hl 1 rfl) ?_
                    refine lv_imul hx hb d_Model_give_142 ?_
                    refine lv_iload_n hx hb d_Model_give_143 rfl (lv_at hl 3 rfl) ?_
                    refine lv_iadd hx hb d_Model_give_144 ?_
                    refine lv_bipush (v := 20) hx hb d_Model_give_145 (by decide) ?_
                    refine lv_isub hx hb d_Model_give_147 ?_
                    refine lv_aload_n hx hb d_Model_give_148 rfl (lv_at hl 2 rfl) ?_
                    refine fg_Model_42 X hK hw hm.1 d_Model_give_149 ?_
                    refine lv_iload_n hx hb d_Model_give_152 rfl (lv_at hl 3 rfl) ?_
                    refine m_ld X hK hw hm (k := 10) (j := j) (by decide) (by decide) rfl (by show j < 20; omega) d_Model_give_153 ?_
                    rw [ix20 b1 j]
                    refine m_st X hK hw hm (k := 7) (j := 20 * b1 + j) (by decide) (by decide) rfl (by show 20 * b1 + j < 6020; omega) d_Model_give_154 (fun f11 H locs hm hw => ?_)
                    refine lv_iload hx hb d_Model_give_155 (lv_at hl 1 rfl) ?_
                    exact ret _ _ _ _ _ _ d_Model_give_157 hw (Or.inr ⟨j, hj, rfl, Or.inr ⟨z4, Or.inr ⟨⟨c6, c7⟩, Or.inr ⟨b1, hkk.symm, rfl, hm⟩⟩⟩⟩)
                | succ q ih =>
                  intro k ls hqn hkk hl
                  have hkn : k ≤ n := by rw [hkk]; exact mbs_le _
                  have hq : q < n := hqn
                  refine lv_iload hx hb d_Model_give_60 (lv_at hl 0 rfl) ?_
                  refine lv_if_le (tgt := 113) hx hb d_Model_give_62 (by decide) (fun c => absurd ((nI_le0 (by omega)).mp c) (by omega)) (fun _ => ?_)
                  refine lv_aload_n hx hb d_Model_give_65 rfl (lv_at hl 2 rfl) ?_
                  refine lv_iload hx hb d_Model_give_66 (lv_at hl 0 rfl) ?_
                  refine lv_iload_n hx hb d_Model_give_68 rfl (lv_at hl 3 rfl) ?_
                  refine wd_cvi (As := [.int (nI (q + 1)), .int (nI j)]) (rest := []) X hK hw (c_Model_isFree b AD 0 mo n t (lt + nI (mC t du (g 2) n)) du (va_up g 2 (mE t du (g 2) n)) hm q hq j hj) (cw_Model_101 hts rfl rfl ⟨(Nat.le_of_ble_eq_true rfl), (Nat.le_of_ble_eq_true rfl)⟩) hm.1 rfl rfl rfl hl.1 rfl (Nat.le_of_ble_eq_true rfl) d_Model_give_69 ⟨(Nat.le_of_ble_eq_true rfl), (Nat.le_of_ble_eq_true rfl)⟩ (fun r hz => ?_)
                  rcases hz with ⟨z12, rfl⟩ | ⟨z12, rfl⟩
                  · skip
                    refine lv_if_eq (tgt := 103) hx hb d_Model_give_72 (by decide) (fun c13 => ?_) (fun c13 => ?_)
                    · exact absurd c13 (by decide)
                    · skip
                      refine lv_iload hx hb d_Model_give_75 (lv_at hl 1 rfl) ?_
                      refine lv_if_eq (tgt := 98) hx hb d_Model_give_77 (by decide) (fun c14 => ?_) (fun c14 => ?_)
                      · skip
                        refine lv_iload hx hb d_Model_give_98 (lv_at hl 0 rfl) ?_
                        refine lv_goto (tgt := 105) hx hb d_Model_give_100 (by decide) ?_
                        refine lv_istore (lv' := [(4, .int (nI (q + 1))), (5, .int (nI (q + 1))), (0, .ref b), (1, .int (nI j)), (2, .long t)]) hx hb d_Model_give_105 hl (by decide) rfl (fun ls hl => ?_)
                        refine lv_iinc (v := ((nI (q + 1)) + (-1))) (lv' := [(5, .int ((nI (q + 1)) + (-1))), (4, .int (nI (q + 1))), (0, .ref b), (1, .int (nI j)), (2, .long t)]) hx hb d_Model_give_107 hl (k := 1) rfl rfl (by decide) rfl (fun ls hl => ?_)
                        refine lv_goto (tgt := 60) hx hb d_Model_give_110 (by decide) ?_
                        exact ih (q + 1) ls (Nat.le_of_lt hq) (mbs_t hq hkk (decide_eq_true z12) (Or.inl ((nI_is0 (by omega)).mp c14))) (by rw [← pk_m1 q]; exact lv_sub hl [0, 1, 2, 3, 4] rfl)
                      · skip
                        refine lv_aload_n hx hb d_Model_give_80 rfl (lv_at hl 2 rfl) ?_
                        refine fg_Model_7 X hK hw hm.1 d_Model_give_81 ?_
                        refine lv_iload hx hb d_Model_give_84 (lv_at hl 0 rfl) ?_
                        refine m_ldl X hK hw hm (j := q + 1) (by omega) d_Model_give_86 ?_
                        refine lv_aload_n hx hb d_Model_give_87 rfl (lv_at hl 2 rfl) ?_
                        refine fg_Model_7 X hK hw hm.1 d_Model_give_88 ?_
                        refine lv_iload hx hb d_Model_give_91 (lv_at hl 1 rfl) ?_
                        refine m_ldl X hK hw hm (j := k) (by omega) d_Model_give_93 ?_
                        refine W.lcmp hx hb d_Model_give_94 ?_
                        refine lv_if_gt (tgt := 103) hx hb d_Model_give_95 (by decide) (fun c15 => ?_) (fun c15 => ?_)
                        · skip
                          refine lv_iload hx hb d_Model_give_103 (lv_at hl 1 rfl) ?_
                          refine lv_istore (lv' := [(4, .int (nI k)), (5, .int (nI (q + 1))), (0, .ref b), (1, .int (nI j)), (2, .long t)]) hx hb d_Model_give_105 hl (by decide) rfl (fun ls hl => ?_)
                          refine lv_iinc (v := ((nI (q + 1)) + (-1))) (lv' := [(5, .int ((nI (q + 1)) + (-1))), (4, .int (nI k)), (0, .ref b), (1, .int (nI j)), (2, .long t)]) hx hb d_Model_give_107 hl (k := 1) rfl rfl (by decide) rfl (fun ls hl => ?_)
                          refine lv_goto (tgt := 60) hx hb d_Model_give_110 (by decide) ?_
                          exact ih k ls (Nat.le_of_lt hq) (mbs_f hq hkk (fun z => Or.elim z.2 (fun y => c14 ((nI_is0 (by omega)).mpr y)) (fun y => y (cmp_gt c15)))) (by rw [← pk_m1 q]; exact lv_sub hl [0, 1, 2, 3, 4] rfl)
                        · skip
                          refine lv_iload hx hb d_Model_give_98 (lv_at hl 0 rfl) ?_
                          refine lv_goto (tgt := 105) hx hb d_Model_give_100 (by decide) ?_
                          refine lv_istore (lv' := [(4, .int (nI (q + 1))), (5, .int (nI (q + 1))), (0, .ref b), (1, .int (nI j)), (2, .long t)]) hx hb d_Model_give_105 hl (by decide) rfl (fun ls hl => ?_)
                          refine lv_iinc (v := ((nI (q + 1)) + (-1))) (lv' := [(5, .int ((nI (q + 1)) + (-1))), (4, .int (nI (q + 1))), (0, .ref b), (1, .int (nI j)), (2, .long t)]) hx hb d_Model_give_107 hl (k := 1) rfl rfl (by decide) rfl (fun ls hl => ?_)
                          refine lv_goto (tgt := 60) hx hb d_Model_give_110 (by decide) ?_
                          exact ih (q + 1) ls (Nat.le_of_lt hq) (mbs_t hq hkk (decide_eq_true z12) (Or.inr (cmp_ngt c15))) (by rw [← pk_m1 q]; exact lv_sub hl [0, 1, 2, 3, 4] rfl)
                  · skip
                    refine lv_if_eq (tgt := 103) hx hb d_Model_give_72 (by decide) (fun c16 => ?_) (fun c16 => ?_)
                    · skip
                      refine lv_iload hx hb d_Model_give_103 (lv_at hl 1 rfl) ?_
                      refine lv_istore (lv' := [(4, .int (nI k)), (5, .int (nI (q + 1))), (0, .ref b), (1, .int (nI j)), (2, .long t)]) hx hb d_Model_give_105 hl (by decide) rfl (fun ls hl => ?_)
                      refine lv_iinc (v := ((nI (q + 1)) + (-1))) (lv' := [(5, .int ((nI (q + 1)) + (-1))), (4, .int (nI k)), (0, .ref b), (1, .int (nI j)), (2, .long t)]) hx hb d_Model_give_107 hl (k := 1) rfl rfl (by decide) rfl (fun ls hl => ?_)
                      refine lv_goto (tgt := 60) hx hb d_Model_give_110 (by decide) ?_
                      exact ih k ls (Nat.le_of_lt hq) (mbs_f hq hkk (fun z => z12 (of_decide_eq_true z.1))) (by rw [← pk_m1 q]; exact lv_sub hl [0, 1, 2, 3, 4] rfl)
                    · exact absurd c16 (by decide)
              exact loop n 0 ls (Nat.le_refl n) (by rw [Nat.sub_self]; rfl) (lv_sub hl [0, 1, 2, 3, 4] rfl)
            · skip
              refine lv_bipush (v := (-103)) hx hb d_Model_give_43 (by decide) ?_
              exact ret _ _ _ _ _ _ d_Model_give_45 hw (Or.inr ⟨j, hj, rfl, Or.inr ⟨z4, Or.inl ⟨Or.inr c7, rfl, hm⟩⟩⟩)
        · exact absurd c5 (by decide)
      · skip
        refine lv_if_ne (tgt := 26) hx hb d_Model_give_20 (by decide) (fun c17 => ?_) (fun c17 => ?_)
        · exact absurd c17 (by decide)
        · skip
          refine lv_bipush (v := (-102)) hx hb d_Model_give_23 (by decide) ?_
          exact ret _ _ _ _ _ _ d_Model_give_25 hw (Or.inr ⟨j, hj, rfl, Or.inl ⟨z4, rfl, hm⟩⟩)
    · exact absurd c3 (by decide)
  · skip
    refine lv_if_ne (tgt := 15) hx hb d_Model_give_9 (by decide) (fun c18 => ?_) (fun c18 => ?_)
    · exact absurd c18 (by decide)
    · skip
      refine lv_bipush (v := (-101)) hx hb d_Model_give_12 (by decide) ?_
      exact ret _ _ _ _ _ _ d_Model_give_14 hw (Or.inl ⟨z2, rfl, hm⟩)

abbrev rm_Model_answer : Room := { frames := 3, cells := 0, slots := 0, locals := 65 }
set_option maxHeartbeats 4000000 in
set_option maxRecDepth 100000 in
theorem c_Model_answer {l : Launch} {D : va_G} {ca : Nat → ClassId} {f : wd_M} {sz : Nat} (b : Nat) (AD : Nat → Nat) (th mo : Int32) (n : Nat) (nw : Int64) (lt : Int32) (du : Nat → Int64) (g : Nat → Nat → Int32) (hm : rM f ca b AD th mo n nw lt du g) (hA : ∀ i : Nat, i < n → g 2 (i + 1) = 0 → ∃ k : Nat, k ≤ 2 ∧ g 4 (i + 1) = nI k) (x y en : Int32) (t : Int64) : Met l y_Model_answer (.code y_Model_answer b_Model_answer 6 (some .int) :: tb) rm_Model_answer (va_Pc [.ref b, .int x, .int y, .int en, .long t] (wd_preZ D classes (ty ca) f sz)) (va_Qi (fun r f' => ((¬ okK x ∨ ¬ (¬ y < 1 ∧ ¬ nI n < y)) ∧ r = -101 ∧ rM f' ca b AD 0 mo n nw lt du g) ∨ ∃ j i : Nat, j < 20 ∧ i < n ∧ x = nI j ∧ y = nI (i + 1) ∧ ((¬ (wi en 9999 ∧ isT nw t) ∧ r = -102 ∧ rM f' ca b AD 0 mo n nw lt du g) ∨ ((wi en 9999 ∧ isT nw t) ∧ ((¬ nI (hd (g 6) j n) = nI (i + 1) ∧ r = -103 ∧ rM f' ca b AD 0 mo n nw lt du g) ∨ (nI (hd (g 6) j n) = nI (i + 1) ∧ ∃ G : Nat → Nat → Int32, rM f' ca b AD 0 mo n t (lt + nI (mC t du (g 2) n)) du G ∧ r = mst G i ∧ ((¬ (aG g t du n i j en) 2 (i + 1) = 0 ∧ G = (aG g t du n i j en)) ∨ ((aG g t du n i j en) 2 (i + 1) = 0 ∧ ∃ k : Nat, k ≤ 2 ∧ g 4 (i + 1) = nI k ∧ ((bl ((aG g t du n i j en) 5) i en k = true ∧ G = tB (aG g t du n i j en) i k en) ∨ (¬ bl ((aG g t du n i j en) 5) i en k = true ∧ nI k = 2 ∧ G = tC (aG g t du n i j en) i k en) ∨ (¬ bl ((aG g t du n i j en) 5) i en k = true ∧ ¬ nI k = 2 ∧ G = tA (aG g t du n i j en) i k en))))))))) (wd_B D classes f sz) (wd_A f sz)) 0 0 (wd_A f sz) := by
  refine wd_Qi (own := R_Model) (by decide) rfl (Nat.le_of_ble_eq_true rfl) ?_
  intro p e s m args below meth c Q X hK hw ret ls hl
  have hx := X.1
  have hb := X.2.1
  have hown := X.2.2.2.1
  have hts := X.2.2.2.2
  have hl : lv_has ls 6 [(0, .ref b), (1, .int x), (2, .int y), (3, .int en), (4, .long t)] := hl
  have hn : n ≤ 300 := hm.2.2.2.2
  refine lv_aload_n hx hb d_Model_answer_0 rfl (lv_at hl 0 rfl) ?_
  refine lv_iconst (v := 0) hx hb d_Model_answer_1 (by decide) ?_
  refine fp_Model_52 X hK hw hm.1 rfl rfl d_Model_answer_2 (fun f1 H locs ef1 hw => ?_)
  have hm : rM f1 ca b AD 0 mo n nw lt du g := rM_obj hm ef1 hm.2.2.2.2
  refine lv_iload_n hx hb d_Model_answer_5 rfl (lv_at hl 1 rfl) ?_
  refine wd_csi (As := [.int x]) (rest := []) X hK hw (c_Model_isClerk x) (cw_Model_90 hts rfl rfl ⟨(Nat.le_of_ble_eq_true rfl), (Nat.le_of_ble_eq_true rfl)⟩) rfl hl.1 rfl (Nat.le_of_ble_eq_true rfl) d_Model_answer_6 ⟨(Nat.le_of_ble_eq_true rfl), (Nat.le_of_ble_eq_true rfl)⟩ (fun r hz => ?_)
  rcases hz with ⟨z2, rfl⟩ | ⟨z2, rfl⟩
  · skip
    obtain ⟨j, hj, hxj⟩ := ok20 z2.1 z2.2
    subst hxj
    refine lv_if_eq (tgt := 20) hx hb d_Model_answer_9 (by decide) (fun c3 => ?_) (fun c3 => ?_)
    · exact absurd c3 (by decide)
    · skip
      refine lv_aload_n hx hb d_Model_answer_12 rfl (lv_at hl 0 rfl) ?_
      refine lv_iload_n hx hb d_Model_answer_13 rfl (lv_at hl 2 rfl) ?_
      refine wd_cvi (As := [.int y]) (rest := []) X hK hw (c_Model_isPicture b AD 0 mo n nw lt du g hm y) (cw_Model_105 hts rfl rfl ⟨(Nat.le_of_ble_eq_true rfl), (Nat.le_of_ble_eq_true rfl)⟩) hm.1 rfl rfl rfl hl.1 rfl (Nat.le_of_ble_eq_true rfl) d_Model_answer_14 ⟨(Nat.le_of_ble_eq_true rfl), (Nat.le_of_ble_eq_true rfl)⟩ (fun r hz => ?_)
      rcases hz with ⟨z4, rfl⟩ | ⟨z4, rfl⟩
      · skip
        obtain ⟨i, hi, hxi⟩ := okN_of hm.2.2.2.2 z4.1 z4.2
        subst hxi
        refine lv_if_ne (tgt := 23) hx hb d_Model_answer_17 (by decide) (fun c5 => ?_) (fun c5 => ?_)
        · skip
          refine lv_iload_n hx hb d_Model_answer_23 rfl (lv_at hl 3 rfl) ?_
          refine lv_i2l hx hb d_Model_answer_24 rfl ?_
          refine lv_lconst (v := 0) hx hb d_Model_answer_25 (by decide) ?_
          refine lv_ldc2 (v := 9999) hx hb hown (hts _ k_Model_108) d_Model_answer_26 ?_
          refine wd_csi (As := [.long ((en).toInt64), .long 0, .long 9999]) (rest := []) X hK hw (c_Model_isIn en.toInt64 0 9999) (cw_Model_58 hts rfl rfl ⟨(Nat.le_of_ble_eq_true rfl), (Nat.le_of_ble_eq_true rfl)⟩) rfl hl.1 rfl (Nat.le_of_ble_eq_true rfl) d_Model_answer_29 ⟨(Nat.le_of_ble_eq_true rfl), (Nat.le_of_ble_eq_true rfl)⟩ (fun r hz => ?_)
          rcases hz with ⟨z6, rfl⟩ | ⟨z6, rfl⟩
          · skip
            rw [wi9_iff] at z6
            refine lv_if_eq (tgt := 44) hx hb d_Model_answer_32 (by decide) (fun c7 => ?_) (fun c7 => ?_)
            · exact absurd c7 (by decide)
            · skip
              refine lv_aload_n hx hb d_Model_answer_35 rfl (lv_at hl 0 rfl) ?_
              refine lv_lload hx hb d_Model_answer_36 (lv_at hl 4 rfl) ?_
              refine wd_cvi (As := [.long t]) (rest := []) X hK hw (c_Model_isTime b AD 0 mo n nw lt du g hm t) (cw_Model_70 hts rfl rfl ⟨(Nat.le_of_ble_eq_true rfl), (Nat.le_of_ble_eq_true rfl)⟩) hm.1 rfl rfl rfl hl.1 rfl (Nat.le_of_ble_eq_true rfl) d_Model_answer_38 ⟨(Nat.le_of_ble_eq_true rfl), (Nat.le_of_ble_eq_true rfl)⟩ (fun r hz => ?_)
              rcases hz with ⟨z8, rfl⟩ | ⟨z8, rfl⟩
              · skip
                refine lv_if_ne (tgt := 47) hx hb d_Model_answer_41 (by decide) (fun c9 => ?_) (fun c9 => ?_)
                · skip
                  refine lv_aload_n hx hb d_Model_answer_47 rfl (lv_at hl 0 rfl) ?_
                  refine lv_iload_n hx hb d_Model_answer_48 rfl (lv_at hl 1 rfl) ?_
                  refine wd_cvi (As := [.int (nI j)]) (rest := []) X hK hw (c_Model_held b AD 0 mo n nw lt du g hm j hj) (cw_Model_93 hts rfl rfl ⟨(Nat.le_of_ble_eq_true rfl), (Nat.le_of_ble_eq_true rfl)⟩) hm.1 rfl rfl rfl hl.1 rfl (Nat.le_of_ble_eq_true rfl) d_Model_answer_49 ⟨(Nat.le_of_ble_eq_true rfl), (Nat.le_of_ble_eq_true rfl)⟩ (fun r hz => ?_)
                  subst hz
                  refine lv_iload_n hx hb d_Model_answer_52 rfl (lv_at hl 2 rfl) ?_
                  refine lv_icmp_eq (tgt := 59) hx hb d_Model_answer_53 (by decide) (fun c10 => ?_) (fun c10 => ?_)
                  · skip
                    refine lv_aload_n hx hb d_Model_answer_59 rfl (lv_at hl 0 rfl) ?_
                    refine lv_lload hx hb d_Model_answer_60 (lv_at hl 4 rfl) ?_
                    refine wd_mvv (As := [.long t]) (rest := []) X hK hw (c_Model_pass b AD 0 mo n nw lt du g hm t) (cw_Model_97 hts rfl rfl ⟨(Nat.le_of_ble_eq_true rfl), (Nat.le_of_ble_eq_true rfl)⟩) hm.1 rfl rfl rfl hl.1 rfl (Nat.le_of_ble_eq_true rfl) d_Model_answer_62 ⟨(Nat.le_of_ble_eq_true rfl), (Nat.le_of_ble_eq_true rfl)⟩ (fun f11 H locs hm hw => ?_)
                    refine lv_aload_n hx hb d_Model_answer_65 rfl (lv_at hl 0 rfl) ?_
                    refine fg_Model_29 X hK hw hm.1 d_Model_answer_66 ?_
                    refine lv_bipush (v := 20) hx hb d_Model_answer_69 (by decide) ?_
                    refine lv_iload_n hx hb d_Model_answer_71 rfl (lv_at hl 2 rfl) ?_
                    refine lv_imul hx hb d_Model_answer_72 ?_
                    refine lv_iload_n hx hb d_Model_answer_73 rfl (lv_at hl 1 rfl) ?_
                    refine lv_iadd hx hb d_Model_answer_74 ?_
                    refine lv_bipush (v := 20) hx hb d_Model_answer_75 (by decide) ?_
                    refine lv_isub hx hb d_Model_answer_77 ?_
                    refine lv_iconst (v := 3) hx hb d_Model_answer_78 (by decide) ?_
                    rw [ix20 i j]
                    refine m_st X hK hw hm (k := 6) (j := 20 * i + j) (by decide) (by decide) rfl (by show 20 * i + j < 6020; omega) d_Model_answer_79 (fun f12 H locs hm hw => ?_)
                    refine lv_aload_n hx hb d_Model_answer_80 rfl (lv_at hl 0 rfl) ?_
                    refine fg_Model_35 X hK hw hm.1 d_Model_answer_81 ?_
                    refine lv_bipush (v := 20) hx hb d_Model_answer_84 (by decide) ?_
                    refine lv_iload_n hx hb d_Model_answer_86 rfl (lv_at hl 2 rfl) ?_
                    refine lv_imul hx hb d_Model_answer_87 ?_
                    refine lv_iload_n hx hb d_Model_answer_88 rfl (lv_at hl 1 rfl) ?_
                    refine lv_iadd hx hb d_Model_answer_89 ?_
                    refine lv_bipush (v := 20) hx hb d_Model_answer_90 (by decide) ?_
                    refine lv_isub hx hb d_Model_answer_92 ?_
                    refine lv_iload_n hx hb d_Model_answer_93 rfl (lv_at hl 3 rfl) ?_
                    rw [ix20 i j]
                    refine m_st X hK hw hm (k := 8) (j := 20 * i + j) (by decide) (by decide) rfl (by show 20 * i + j < 6020; omega) d_Model_answer_94 (fun f13 H locs hm hw => ?_)
                    refine lv_aload_n hx hb d_Model_answer_95 rfl (lv_at hl 0 rfl) ?_
                    refine fg_Model_17 X hK hw hm.1 d_Model_answer_96 ?_
                    refine lv_iload_n hx hb d_Model_answer_99 rfl (lv_at hl 2 rfl) ?_
                    refine m_ld X hK hw hm (k := 2) (j := i + 1) (by decide) (by decide) rfl (by show i + 1 < 301; omega) d_Model_answer_100 ?_
                    refine lv_if_ne (tgt := 110) hx hb d_Model_answer_101 (by decide) (fun c14 => ?_) (fun c14 => ?_)
                    · skip
                      refine lv_aload_n hx hb d_Model_answer_110 rfl (lv_at hl 0 rfl) ?_
                      refine lv_iload_n hx hb d_Model_answer_111 rfl (lv_at hl 2 rfl) ?_
                      refine wd_cvi (As := [.int (nI (i + 1))]) (rest := []) X hK hw (c_Model_stateOf b AD 0 mo n t (lt + nI (mC t du (g 2) n)) du (va_up (va_up (va_up g 2 (mE t du (g 2) n)) 6 (upd ((va_up g 2 (mE t du (g 2) n)) 6) (20 * i + j) 3)) 8 (upd ((va_up (va_up g 2 (mE t du (g 2) n)) 6 (upd ((va_up g 2 (mE t du (g 2) n)) 6) (20 * i + j) 3)) 8) (20 * i + j) en)) hm i hi) (cw_Model_114 hts rfl rfl ⟨(Nat.le_of_ble_eq_true rfl), (Nat.le_of_ble_eq_true rfl)⟩) hm.1 rfl rfl rfl hl.1 rfl (Nat.le_of_ble_eq_true rfl) d_Model_answer_112 ⟨(Nat.le_of_ble_eq_true rfl), (Nat.le_of_ble_eq_true rfl)⟩ (fun r hz => ?_)
                      subst hz
                      exact ret _ _ _ _ _ _ d_Model_answer_115 hw (Or.inr ⟨j, i, hj, hi, rfl, rfl, Or.inr ⟨⟨z6, z8⟩, Or.inr ⟨c10, _, hm, rfl, Or.inl ⟨c14, rfl⟩⟩⟩⟩)
                    · skip
                      refine lv_aload_n hx hb d_Model_answer_104 rfl (lv_at hl 0 rfl) ?_
                      refine lv_iload_n hx hb d_Model_answer_105 rfl (lv_at hl 2 rfl) ?_
                      refine lv_iload_n hx hb d_Model_answer_106 rfl (lv_at hl 3 rfl) ?_
                      obtain ⟨k, hk2, hk4⟩ := hA i hi (mE_z (by simpa [va_up] using c14))
                      have hk4x : (va_up (va_up (va_up g 2 (mE t du (g 2) n)) 6 (upd ((va_up g 2 (mE t du (g 2) n)) 6) (20 * i + j) 3)) 8 (upd ((va_up (va_up g 2 (mE t du (g 2) n)) 6 (upd ((va_up g 2 (mE t du (g 2) n)) 6) (20 * i + j) 3)) 8) (20 * i + j) en)) 4 (i + 1) = nI k := by simpa [va_up] using hk4
                      refine wd_mvv (As := [.int (nI (i + 1)), .int en]) (rest := []) X hK hw (c_Model_take b AD 0 mo n t (lt + nI (mC t du (g 2) n)) du (va_up (va_up (va_up g 2 (mE t du (g 2) n)) 6 (upd ((va_up g 2 (mE t du (g 2) n)) 6) (20 * i + j) 3)) 8 (upd ((va_up (va_up g 2 (mE t du (g 2) n)) 6 (upd ((va_up g 2 (mE t du (g 2) n)) 6) (20 * i + j) 3)) 8) (20 * i + j) en)) hm i hi k hk4x hk2 en) (cw_Model_110 hts rfl rfl ⟨(Nat.le_of_ble_eq_true rfl), (Nat.le_of_ble_eq_true rfl)⟩) hm.1 rfl rfl rfl hl.1 rfl (Nat.le_of_ble_eq_true rfl) d_Model_answer_107 ⟨(Nat.le_of_ble_eq_true rfl), (Nat.le_of_ble_eq_true rfl)⟩ (fun f15 H locs hz hw => ?_)
                      rcases hz with ⟨hb0, hm⟩ | ⟨hb0, hb2, hm⟩ | ⟨hb0, hb2, hm⟩
                      · skip
                        refine lv_aload_n hx hb d_Model_answer_110 rfl (lv_at hl 0 rfl) ?_
                        refine lv_iload_n hx hb d_Model_answer_111 rfl (lv_at hl 2 rfl) ?_
                        refine wd_cvi (As := [.int (nI (i + 1))]) (rest := []) X hK hw (c_Model_stateOf b AD 0 mo n t (lt + nI (mC t du (g 2) n)) du (tB (va_up (va_up (va_up g 2 (mE t du (g 2) n)) 6 (upd ((va_up g 2 (mE t du (g 2) n)) 6) (20 * i + j) 3)) 8 (upd ((va_up (va_up g 2 (mE t du (g 2) n)) 6 (upd ((va_up g 2 (mE t du (g 2) n)) 6) (20 * i + j) 3)) 8) (20 * i + j) en)) i k en) hm i hi) (cw_Model_114 hts rfl rfl ⟨(Nat.le_of_ble_eq_true rfl), (Nat.le_of_ble_eq_true rfl)⟩) hm.1 rfl rfl rfl hl.1 rfl (Nat.le_of_ble_eq_true rfl) d_Model_answer_112 ⟨(Nat.le_of_ble_eq_true rfl), (Nat.le_of_ble_eq_true rfl)⟩ (fun r hz => ?_)
                        subst hz
                        exact ret _ _ _ _ _ _ d_Model_answer_115 hw (Or.inr ⟨j, i, hj, hi, rfl, rfl, Or.inr ⟨⟨z6, z8⟩, Or.inr ⟨c10, _, hm, rfl, Or.inr ⟨c14, k, hk2, hk4, Or.inl ⟨hb0, rfl⟩⟩⟩⟩⟩)
                      · skip
                        refine lv_aload_n hx hb d_Model_answer_110 rfl (lv_at hl 0 rfl) ?_
                        refine lv_iload_n hx hb d_Model_answer_111 rfl (lv_at hl 2 rfl) ?_
                        refine wd_cvi (As := [.int (nI (i + 1))]) (rest := []) X hK hw (c_Model_stateOf b AD 0 mo n t (lt + nI (mC t du (g 2) n)) du (tC (va_up (va_up (va_up g 2 (mE t du (g 2) n)) 6 (upd ((va_up g 2 (mE t du (g 2) n)) 6) (20 * i + j) 3)) 8 (upd ((va_up (va_up g 2 (mE t du (g 2) n)) 6 (upd ((va_up g 2 (mE t du (g 2) n)) 6) (20 * i + j) 3)) 8) (20 * i + j) en)) i k en) hm i hi) (cw_Model_114 hts rfl rfl ⟨(Nat.le_of_ble_eq_true rfl), (Nat.le_of_ble_eq_true rfl)⟩) hm.1 rfl rfl rfl hl.1 rfl (Nat.le_of_ble_eq_true rfl) d_Model_answer_112 ⟨(Nat.le_of_ble_eq_true rfl), (Nat.le_of_ble_eq_true rfl)⟩ (fun r hz => ?_)
                        subst hz
                        exact ret _ _ _ _ _ _ d_Model_answer_115 hw (Or.inr ⟨j, i, hj, hi, rfl, rfl, Or.inr ⟨⟨z6, z8⟩, Or.inr ⟨c10, _, hm, rfl, Or.inr ⟨c14, k, hk2, hk4, Or.inr (Or.inl ⟨hb0, hb2, rfl⟩)⟩⟩⟩⟩)
                      · skip
                        refine lv_aload_n hx hb d_Model_answer_110 rfl (lv_at hl 0 rfl) ?_
                        refine lv_iload_n hx hb d_Model_answer_111 rfl (lv_at hl 2 rfl) ?_
                        refine wd_cvi (As := [.int (nI (i + 1))]) (rest := []) X hK hw (c_Model_stateOf b AD 0 mo n t (lt + nI (mC t du (g 2) n)) du (tA (va_up (va_up (va_up g 2 (mE t du (g 2) n)) 6 (upd ((va_up g 2 (mE t du (g 2) n)) 6) (20 * i + j) 3)) 8 (upd ((va_up (va_up g 2 (mE t du (g 2) n)) 6 (upd ((va_up g 2 (mE t du (g 2) n)) 6) (20 * i + j) 3)) 8) (20 * i + j) en)) i k en) hm i hi) (cw_Model_114 hts rfl rfl ⟨(Nat.le_of_ble_eq_true rfl), (Nat.le_of_ble_eq_true rfl)⟩) hm.1 rfl rfl rfl hl.1 rfl (Nat.le_of_ble_eq_true rfl) d_Model_answer_112 ⟨(Nat.le_of_ble_eq_true rfl), (Nat.le_of_ble_eq_true rfl)⟩ (fun r hz => ?_)
                        subst hz
                        exact ret _ _ _ _ _ _ d_Model_answer_115 hw (Or.inr ⟨j, i, hj, hi, rfl, rfl, Or.inr ⟨⟨z6, z8⟩, Or.inr ⟨c10, _, hm, rfl, Or.inr ⟨c14, k, hk2, hk4, Or.inr (Or.inr ⟨hb0, hb2, rfl⟩)⟩⟩⟩⟩)
                  · skip
                    refine lv_bipush (v := (-103)) hx hb d_Model_answer_56 (by decide) ?_
                    exact ret _ _ _ _ _ _ d_Model_answer_58 hw (Or.inr ⟨j, i, hj, hi, rfl, rfl, Or.inr ⟨⟨z6, z8⟩, Or.inl ⟨c10, rfl, hm⟩⟩⟩)
                · exact absurd c9 (by decide)
              · skip
                refine lv_if_ne (tgt := 47) hx hb d_Model_answer_41 (by decide) (fun c16 => ?_) (fun c16 => ?_)
                · exact absurd c16 (by decide)
                · skip
                  refine lv_bipush (v := (-102)) hx hb d_Model_answer_44 (by decide) ?_
                  exact ret _ _ _ _ _ _ d_Model_answer_46 hw (Or.inr ⟨j, i, hj, hi, rfl, rfl, Or.inl ⟨(fun q => z8 q.2), rfl, hm⟩⟩)
          · skip
            rw [wi9_iff] at z6
            refine lv_if_eq (tgt := 44) hx hb d_Model_answer_32 (by decide) (fun c17 => ?_) (fun c17 => ?_)
            · skip
              refine lv_bipush (v := (-102)) hx hb d_Model_answer_44 (by decide) ?_
              exact ret _ _ _ _ _ _ d_Model_answer_46 hw (Or.inr ⟨j, i, hj, hi, rfl, rfl, Or.inl ⟨(fun q => z6 q.1), rfl, hm⟩⟩)
            · exact absurd c17 (by decide)
        · exact absurd c5 (by decide)
      · skip
        refine lv_if_ne (tgt := 23) hx hb d_Model_answer_17 (by decide) (fun c18 => ?_) (fun c18 => ?_)
        · exact absurd c18 (by decide)
        · skip
          refine lv_bipush (v := (-101)) hx hb d_Model_answer_20 (by decide) ?_
          exact ret _ _ _ _ _ _ d_Model_answer_22 hw (Or.inl ⟨Or.inr z4, rfl, hm⟩)
  · skip
    refine lv_if_eq (tgt := 20) hx hb d_Model_answer_9 (by decide) (fun c19 => ?_) (fun c19 => ?_)
    · skip
      refine lv_bipush (v := (-101)) hx hb d_Model_answer_20 (by decide) ?_
      exact ret _ _ _ _ _ _ d_Model_answer_22 hw (Or.inl ⟨Or.inl z2, rfl, hm⟩)
    · exact absurd c19 (by decide)
end
section
def my (x : Int32) : Int32 := if 1 ≤ x then (if x ≤ 100 then x else 100) else 1
theorem mono_inj {AD : Nat → Nat} (h : ∀ i : Nat, i < 11 → AD i < AD (i + 1)) : ∀ i j : Nat, i ≤ 11 → j ≤ 11 → AD i = AD j → i = j := by
  have key : ∀ d i : Nat, i + d + 1 ≤ 11 → AD i < AD (i + d + 1) := by
    intro d
    induction d with
    | zero => intro i hi; exact h i (by omega)
    | succ d ih => intro i hi; exact Nat.lt_trans (ih i (by omega)) (h (i + d + 1) (by omega))
  intro i j hi hj e
  rcases Nat.lt_trichotomy i j with q | q | q
  · have := key (j - i - 1) i (by omega)
    rw [show i + (j - i - 1) + 1 = j by omega] at this
    omega
  · exact q
  · have := key (i - j - 1) j (by omega)
    rw [show j + (i - j - 1) + 1 = i by omega] at this
    omega
end
section
abbrev rm_Model_init : Room := { frames := 1, cells := 12, slots := 20528, locals := 12 }
set_option maxHeartbeats 4000000 in
set_option maxRecDepth 100000 in
theorem c_Model_init {l : Launch} {D : va_G} {ca : Nat → ClassId} {f : wd_M} {sz : Nat} (b : Nat) (h_b : f b = some (.inr (4, [.int 0, .int 0, .int 0, .null, .null, .null, .null, .null, .null, .null, .null, .null, .null, .null, .null, .long 0, .int 0]))) (x : Int32) : Met l y_Model_init (.code y_Model_init b_Model_init 3 none :: tb) rm_Model_init (va_Pc [.ref b, .int x] (wd_preZ D classes (ty ca) f sz)) (va_Qv (fun f' => ∃ (AD : Nat → Nat) (g : Nat → Nat → Int32), rM f' ca b AD 0 (my x) 0 0 0 (fun _ => 0) g ∧ (∀ k : Nat, k ≠ 8 → g k = fun _ => 0) ∧ ∀ j : Nat, j < 6020 → g 8 j = -1) (wd_B D classes f sz) (wd_A f sz)) 12 20528 (wd_A f sz) := by
  refine wd_Qv (own := R_Model) (by decide) rfl (Nat.le_of_ble_eq_true rfl) ?_
  intro p e s m args below meth c Q X hK hnm hw ret ls hl
  have hx := X.1
  have hb := X.2.1
  have hown := X.2.2.2.1
  have hts := X.2.2.2.2
  have hl : lv_has ls 3 [(0, .ref b), (1, .int x)] := hl
  refine lv_aload_n hx hb d_Model_init_0 rfl (lv_at hl 0 rfl) ?_
  refine wd_obj X ml_Model_1 im_obj cd_obj hl.1 d_Model_init_1 (Nat.le_of_ble_eq_true rfl) (Nat.le_of_ble_eq_true rfl) ?_
  refine lv_aload_n hx hb d_Model_init_4 rfl (lv_at hl 0 rfl) ?_
  refine lv_sipush (v := 301) hx hb d_Model_init_5 (by decide) ?_
  refine wd_newa X hK hw (ty := .long) rfl ac_long 3 rfl (fun h => h) (N' := 301) (a0 := (301, .inr (.inl (fun _ => 0)))) rfl (by decide) (by decide) (by decide) (Nat.le_of_ble_eq_true rfl) (Nat.le_of_ble_eq_true rfl) d_Model_init_8 (fun q0 f1 H eq0 hq0 ef1 hw => ?_)
  have h_b : f1 b = some (.inr (4, [.int 0, .int 0, .int 0, .null, .null, .null, .null, .null, .null, .null, .null, .null, .null, .null, .null, .long 0, .int 0])) := by rw [ef1, wd_un (wd_neF h_b hq0)]; exact h_b
  have h_q0 : f1 q0 = some (.inl (ca 3, 301, .inr (.inl (fun _ => 0)))) := by rw [ef1]; exact wd_us
  refine fp_Model_7 X hK hw hnm h_b rfl rfl d_Model_init_10 (fun f2 H locs ef2 hw => ?_)
  have h_q0 : f2 q0 = some (.inl (ca 3, 301, .inr (.inl (fun _ => 0)))) := by rw [ef2, wd_un (Ne.symm (wd_neA h_b h_q0))]; exact h_q0
  have h_b : f2 b = some (.inr (4, [.int 0, .int 0, .int 0, .ref q0, .null, .null, .null, .null, .null, .null, .null, .null, .null, .null, .null, .long 0, .int 0])) := by rw [ef2]; exact wd_us
  refine lv_aload_n hx hb d_Model_init_13 rfl (lv_at hl 0 rfl) ?_
  refine lv_sipush (v := 301) hx hb d_Model_init_14 (by decide) ?_
  have lx1 := hw.1.lt h_q0
  refine wd_newa X hK hw (ty := .int) rfl ac_int 2 rfl (fun h => h) (N' := 301) (a0 := (301, .inl (fun _ => 0))) rfl (by decide) (by decide) (by decide) (Nat.le_of_ble_eq_true rfl) (Nat.le_of_ble_eq_true rfl) d_Model_init_17 (fun q1 f3 H eq1 hq1 ef3 hw => ?_)
  have lt1 : q0 < q1 := by rw [eq1]; exact lx1
  have h_b : f3 b = some (.inr (4, [.int 0, .int 0, .int 0, .ref q0, .null, .null, .null, .null, .null, .null, .null, .null, .null, .null, .null, .long 0, .int 0])) := by rw [ef3, wd_un (wd_neF h_b hq1)]; exact h_b
  have h_q0 : f3 q0 = some (.inl (ca 3, 301, .inr (.inl (fun _ => 0)))) := by rw [ef3, wd_un (wd_neF h_q0 hq1)]; exact h_q0
  have h_q1 : f3 q1 = some (.inl (ca 2, 301, .inl (fun _ => 0))) := by rw [ef3]; exact wd_us
  refine fp_Model_13 X hK hw hnm h_b rfl rfl d_Model_init_19 (fun f4 H locs ef4 hw => ?_)
  have h_q0 : f4 q0 = some (.inl (ca 3, 301, .inr (.inl (fun _ => 0)))) := by rw [ef4, wd_un (Ne.symm (wd_neA h_b h_q0))]; exact h_q0
  have h_q1 : f4 q1 = some (.inl (ca 2, 301, .inl (fun _ => 0))) := by rw [ef4, wd_un (Ne.symm (wd_neA h_b h_q1))]; exact h_q1
  have h_b : f4 b = some (.inr (4, [.int 0, .int 0, .int 0, .ref q0, .ref q1, .null, .null, .null, .null, .null, .null, .null, .null, .null, .null, .long 0, .int 0])) := by rw [ef4]; exact wd_us
  refine lv_aload_n hx hb d_Model_init_22 rfl (lv_at hl 0 rfl) ?_
  refine lv_sipush (v := 301) hx hb d_Model_init_23 (by decide) ?_
  have lx2 := hw.1.lt h_q1
  refine wd_newa X hK hw (ty := .int) rfl ac_int 2 rfl (fun h => h) (N' := 301) (a0 := (301, .inl (fun _ => 0))) rfl (by decide) (by decide) (by decide) (Nat.le_of_ble_eq_true rfl) (Nat.le_of_ble_eq_true rfl) d_Model_init_26 (fun q2 f5 H eq2 hq2 ef5 hw => ?_)
  have lt2 : q1 < q2 := by rw [eq2]; exact lx2
  have h_b : f5 b = some (.inr (4, [.int 0, .int 0, .int 0, .ref q0, .ref q1, .null, .null, .null, .null, .null, .null, .null, .null, .null, .null, .long 0, .int 0])) := by rw [ef5, wd_un (wd_neF h_b hq2)]; exact h_b
  have h_q0 : f5 q0 = some (.inl (ca 3, 301, .inr (.inl (fun _ => 0)))) := by rw [ef5, wd_un (wd_neF h_q0 hq2)]; exact h_q0
  have h_q1 : f5 q1 = some (.inl (ca 2, 301, .inl (fun _ => 0))) := by rw [ef5, wd_un (wd_neF h_q1 hq2)]; exact h_q1
  have h_q2 : f5 q2 = some (.inl (ca 2, 301, .inl (fun _ => 0))) := by rw [ef5]; exact wd_us
  refine fp_Model_17 X hK hw hnm h_b rfl rfl d_Model_init_28 (fun f6 H locs ef6 hw => ?_)
  have h_q0 : f6 q0 = some (.inl (ca 3, 301, .inr (.inl (fun _ => 0)))) := by rw [ef6, wd_un (Ne.symm (wd_neA h_b h_q0))]; exact h_q0
  have h_q1 : f6 q1 = some (.inl (ca 2, 301, .inl (fun _ => 0))) := by rw [ef6, wd_un (Ne.symm (wd_neA h_b h_q1))]; exact h_q1
  have h_q2 : f6 q2 = some (.inl (ca 2, 301, .inl (fun _ => 0))) := by rw [ef6, wd_un (Ne.symm (wd_neA h_b h_q2))]; exact h_q2
  have h_b : f6 b = some (.inr (4, [.int 0, .int 0, .int 0, .ref q0, .ref q1, .ref q2, .null, .null, .null, .null, .null, .null, .null, .null, .null, .long 0, .int 0])) := by rw [ef6]; exact wd_us
  refine lv_aload_n hx hb d_Model_init_31 rfl (lv_at hl 0 rfl) ?_
  refine lv_sipush (v := 301) hx hb d_Model_init_32 (by decide) ?_
  have lx3 := hw.1.lt h_q2
  refine wd_newa X hK hw (ty := .int) rfl ac_int 2 rfl (fun h => h) (N' := 301) (a0 := (301, .inl (fun _ => 0))) rfl (by decide) (by decide) (by decide) (Nat.le_of_ble_eq_true rfl) (Nat.le_of_ble_eq_true rfl) d_Model_init_35 (fun q3 f7 H eq3 hq3 ef7 hw => ?_)
  have lt3 : q2 < q3 := by rw [eq3]; exact lx3
  have h_b : f7 b = some (.inr (4, [.int 0, .int 0, .int 0, .ref q0, .ref q1, .ref q2, .null, .null, .null, .null, .null, .null, .null, .null, .null, .long 0, .int 0])) := by rw [ef7, wd_un (wd_neF h_b hq3)]; exact h_b
  have h_q0 : f7 q0 = some (.inl (ca 3, 301, .inr (.inl (fun _ => 0)))) := by rw [ef7, wd_un (wd_neF h_q0 hq3)]; exact h_q0
  have h_q1 : f7 q1 = some (.inl (ca 2, 301, .inl (fun _ => 0))) := by rw [ef7, wd_un (wd_neF h_q1 hq3)]; exact h_q1
  have h_q2 : f7 q2 = some (.inl (ca 2, 301, .inl (fun _ => 0))) := by rw [ef7, wd_un (wd_neF h_q2 hq3)]; exact h_q2
  have h_q3 : f7 q3 = some (.inl (ca 2, 301, .inl (fun _ => 0))) := by rw [ef7]; exact wd_us
  refine fp_Model_20 X hK hw hnm h_b rfl rfl d_Model_init_37 (fun f8 H locs ef8 hw => ?_)
  have h_q0 : f8 q0 = some (.inl (ca 3, 301, .inr (.inl (fun _ => 0)))) := by rw [ef8, wd_un (Ne.symm (wd_neA h_b h_q0))]; exact h_q0
  have h_q1 : f8 q1 = some (.inl (ca 2, 301, .inl (fun _ => 0))) := by rw [ef8, wd_un (Ne.symm (wd_neA h_b h_q1))]; exact h_q1
  have h_q2 : f8 q2 = some (.inl (ca 2, 301, .inl (fun _ => 0))) := by rw [ef8, wd_un (Ne.symm (wd_neA h_b h_q2))]; exact h_q2
  have h_q3 : f8 q3 = some (.inl (ca 2, 301, .inl (fun _ => 0))) := by rw [ef8, wd_un (Ne.symm (wd_neA h_b h_q3))]; exact h_q3
  have h_b : f8 b = some (.inr (4, [.int 0, .int 0, .int 0, .ref q0, .ref q1, .ref q2, .ref q3, .null, .null, .null, .null, .null, .null, .null, .null, .long 0, .int 0])) := by rw [ef8]; exact wd_us
  refine lv_aload_n hx hb d_Model_init_40 rfl (lv_at hl 0 rfl) ?_
  refine lv_sipush (v := 301) hx hb d_Model_init_41 (by decide) ?_
  have lx4 := hw.1.lt h_q3
  refine wd_newa X hK hw (ty := .int) rfl ac_int 2 rfl (fun h => h) (N' := 301) (a0 := (301, .inl (fun _ => 0))) rfl (by decide) (by decide) (by decide) (Nat.le_of_ble_eq_true rfl) (Nat.le_of_ble_eq_true rfl) d_Model_init_44 (fun q4 f9 H eq4 hq4 ef9 hw => ?_)
  have lt4 : q3 < q4 := by rw [eq4]; exact lx4
  have h_b : f9 b = some (.inr (4, [.int 0, .int 0, .int 0, .ref q0, .ref q1, .ref q2, .ref q3, .null, .null, .null, .null, .null, .null, .null, .null, .long 0, .int 0])) := by rw [ef9, wd_un (wd_neF h_b hq4)]; exact h_b
  have h_q0 : f9 q0 = some (.inl (ca 3, 301, .inr (.inl (fun _ => 0)))) := by rw [ef9, wd_un (wd_neF h_q0 hq4)]; exact h_q0
  have h_q1 : f9 q1 = some (.inl (ca 2, 301, .inl (fun _ => 0))) := by rw [ef9, wd_un (wd_neF h_q1 hq4)]; exact h_q1
  have h_q2 : f9 q2 = some (.inl (ca 2, 301, .inl (fun _ => 0))) := by rw [ef9, wd_un (wd_neF h_q2 hq4)]; exact h_q2
  have h_q3 : f9 q3 = some (.inl (ca 2, 301, .inl (fun _ => 0))) := by rw [ef9, wd_un (wd_neF h_q3 hq4)]; exact h_q3
  have h_q4 : f9 q4 = some (.inl (ca 2, 301, .inl (fun _ => 0))) := by rw [ef9]; exact wd_us
  refine fp_Model_23 X hK hw hnm h_b rfl rfl d_Model_init_46 (fun f10 H locs ef10 hw => ?_)
  have h_q0 : f10 q0 = some (.inl (ca 3, 301, .inr (.inl (fun _ => 0)))) := by rw [ef10, wd_un (Ne.symm (wd_neA h_b h_q0))]; exact h_q0
  have h_q1 : f10 q1 = some (.inl (ca 2, 301, .inl (fun _ => 0))) := by rw [ef10, wd_un (Ne.symm (wd_neA h_b h_q1))]; exact h_q1
  have h_q2 : f10 q2 = some (.inl (ca 2, 301, .inl (fun _ => 0))) := by rw [ef10, wd_un (Ne.symm (wd_neA h_b h_q2))]; exact h_q2
  have h_q3 : f10 q3 = some (.inl (ca 2, 301, .inl (fun _ => 0))) := by rw [ef10, wd_un (Ne.symm (wd_neA h_b h_q3))]; exact h_q3
  have h_q4 : f10 q4 = some (.inl (ca 2, 301, .inl (fun _ => 0))) := by rw [ef10, wd_un (Ne.symm (wd_neA h_b h_q4))]; exact h_q4
  have h_b : f10 b = some (.inr (4, [.int 0, .int 0, .int 0, .ref q0, .ref q1, .ref q2, .ref q3, .ref q4, .null, .null, .null, .null, .null, .null, .null, .long 0, .int 0])) := by rw [ef10]; exact wd_us
  refine lv_aload_n hx hb d_Model_init_49 rfl (lv_at hl 0 rfl) ?_
  refine lv_sipush (v := 903) hx hb d_Model_init_50 (by decide) ?_
  have lx5 := hw.1.lt h_q4
  refine wd_newa X hK hw (ty := .int) rfl ac_int 2 rfl (fun h => h) (N' := 903) (a0 := (903, .inl (fun _ => 0))) rfl (by decide) (by decide) (by decide) (Nat.le_of_ble_eq_true rfl) (Nat.le_of_ble_eq_true rfl) d_Model_init_53 (fun q5 f11 H eq5 hq5 ef11 hw => ?_)
  have lt5 : q4 < q5 := by rw [eq5]; exact lx5
  have h_b : f11 b = some (.inr (4, [.int 0, .int 0, .int 0, .ref q0, .ref q1, .ref q2, .ref q3, .ref q4, .null, .null, .null, .null, .null, .null, .null, .long 0, .int 0])) := by rw [ef11, wd_un (wd_neF h_b hq5)]; exact h_b
  have h_q0 : f11 q0 = some (.inl (ca 3, 301, .inr (.inl (fun _ => 0)))) := by rw [ef11, wd_un (wd_neF h_q0 hq5)]; exact h_q0
  have h_q1 : f11 q1 = some (.inl (ca 2, 301, .inl (fun _ => 0))) := by rw [ef11, wd_un (wd_neF h_q1 hq5)]; exact h_q1
  have h_q2 : f11 q2 = some (.inl (ca 2, 301, .inl (fun _ => 0))) := by rw [ef11, wd_un (wd_neF h_q2 hq5)]; exact h_q2
  have h_q3 : f11 q3 = some (.inl (ca 2, 301, .inl (fun _ => 0))) := by rw [ef11, wd_un (wd_neF h_q3 hq5)]; exact h_q3
  have h_q4 : f11 q4 = some (.inl (ca 2, 301, .inl (fun _ => 0))) := by rw [ef11, wd_un (wd_neF h_q4 hq5)]; exact h_q4
  have h_q5 : f11 q5 = some (.inl (ca 2, 903, .inl (fun _ => 0))) := by rw [ef11]; exact wd_us
  refine fp_Model_26 X hK hw hnm h_b rfl rfl d_Model_init_55 (fun f12 H locs ef12 hw => ?_)
  have h_q0 : f12 q0 = some (.inl (ca 3, 301, .inr (.inl (fun _ => 0)))) := by rw [ef12, wd_un (Ne.symm (wd_neA h_b h_q0))]; exact h_q0
  have h_q1 : f12 q1 = some (.inl (ca 2, 301, .inl (fun _ => 0))) := by rw [ef12, wd_un (Ne.symm (wd_neA h_b h_q1))]; exact h_q1
  have h_q2 : f12 q2 = some (.inl (ca 2, 301, .inl (fun _ => 0))) := by rw [ef12, wd_un (Ne.symm (wd_neA h_b h_q2))]; exact h_q2
  have h_q3 : f12 q3 = some (.inl (ca 2, 301, .inl (fun _ => 0))) := by rw [ef12, wd_un (Ne.symm (wd_neA h_b h_q3))]; exact h_q3
  have h_q4 : f12 q4 = some (.inl (ca 2, 301, .inl (fun _ => 0))) := by rw [ef12, wd_un (Ne.symm (wd_neA h_b h_q4))]; exact h_q4
  have h_q5 : f12 q5 = some (.inl (ca 2, 903, .inl (fun _ => 0))) := by rw [ef12, wd_un (Ne.symm (wd_neA h_b h_q5))]; exact h_q5
  have h_b : f12 b = some (.inr (4, [.int 0, .int 0, .int 0, .ref q0, .ref q1, .ref q2, .ref q3, .ref q4, .ref q5, .null, .null, .null, .null, .null, .null, .long 0, .int 0])) := by rw [ef12]; exact wd_us
  refine lv_aload_n hx hb d_Model_init_58 rfl (lv_at hl 0 rfl) ?_
  refine lv_sipush (v := 6020) hx hb d_Model_init_59 (by decide) ?_
  have lx6 := hw.1.lt h_q5
  refine wd_newa X hK hw (ty := .int) rfl ac_int 2 rfl (fun h => h) (N' := 6020) (a0 := (6020, .inl (fun _ => 0))) rfl (by decide) (by decide) (by decide) (Nat.le_of_ble_eq_true rfl) (Nat.le_of_ble_eq_true rfl) d_Model_init_62 (fun q6 f13 H eq6 hq6 ef13 hw => ?_)
  have lt6 : q5 < q6 := by rw [eq6]; exact lx6
  have h_b : f13 b = some (.inr (4, [.int 0, .int 0, .int 0, .ref q0, .ref q1, .ref q2, .ref q3, .ref q4, .ref q5, .null, .null, .null, .null, .null, .null, .long 0, .int 0])) := by rw [ef13, wd_un (wd_neF h_b hq6)]; exact h_b
  have h_q0 : f13 q0 = some (.inl (ca 3, 301, .inr (.inl (fun _ => 0)))) := by rw [ef13, wd_un (wd_neF h_q0 hq6)]; exact h_q0
  have h_q1 : f13 q1 = some (.inl (ca 2, 301, .inl (fun _ => 0))) := by rw [ef13, wd_un (wd_neF h_q1 hq6)]; exact h_q1
  have h_q2 : f13 q2 = some (.inl (ca 2, 301, .inl (fun _ => 0))) := by rw [ef13, wd_un (wd_neF h_q2 hq6)]; exact h_q2
  have h_q3 : f13 q3 = some (.inl (ca 2, 301, .inl (fun _ => 0))) := by rw [ef13, wd_un (wd_neF h_q3 hq6)]; exact h_q3
  have h_q4 : f13 q4 = some (.inl (ca 2, 301, .inl (fun _ => 0))) := by rw [ef13, wd_un (wd_neF h_q4 hq6)]; exact h_q4
  have h_q5 : f13 q5 = some (.inl (ca 2, 903, .inl (fun _ => 0))) := by rw [ef13, wd_un (wd_neF h_q5 hq6)]; exact h_q5
  have h_q6 : f13 q6 = some (.inl (ca 2, 6020, .inl (fun _ => 0))) := by rw [ef13]; exact wd_us
  refine fp_Model_29 X hK hw hnm h_b rfl rfl d_Model_init_64 (fun f14 H locs ef14 hw => ?_)
  have h_q0 : f14 q0 = some (.inl (ca 3, 301, .inr (.inl (fun _ => 0)))) := by rw [ef14, wd_un (Ne.symm (wd_neA h_b h_q0))]; exact h_q0
  have h_q1 : f14 q1 = some (.inl (ca 2, 301, .inl (fun _ => 0))) := by rw [ef14, wd_un (Ne.symm (wd_neA h_b h_q1))]; exact h_q1
  have h_q2 : f14 q2 = some (.inl (ca 2, 301, .inl (fun _ => 0))) := by rw [ef14, wd_un (Ne.symm (wd_neA h_b h_q2))]; exact h_q2
  have h_q3 : f14 q3 = some (.inl (ca 2, 301, .inl (fun _ => 0))) := by rw [ef14, wd_un (Ne.symm (wd_neA h_b h_q3))]; exact h_q3
  have h_q4 : f14 q4 = some (.inl (ca 2, 301, .inl (fun _ => 0))) := by rw [ef14, wd_un (Ne.symm (wd_neA h_b h_q4))]; exact h_q4
  have h_q5 : f14 q5 = some (.inl (ca 2, 903, .inl (fun _ => 0))) := by rw [ef14, wd_un (Ne.symm (wd_neA h_b h_q5))]; exact h_q5
  have h_q6 : f14 q6 = some (.inl (ca 2, 6020, .inl (fun _ => 0))) := by rw [ef14, wd_un (Ne.symm (wd_neA h_b h_q6))]; exact h_q6
  have h_b : f14 b = some (.inr (4, [.int 0, .int 0, .int 0, .ref q0, .ref q1, .ref q2, .ref q3, .ref q4, .ref q5, .ref q6, .null, .null, .null, .null, .null, .long 0, .int 0])) := by rw [ef14]; exact wd_us
  refine lv_aload_n hx hb d_Model_init_67 rfl (lv_at hl 0 rfl) ?_
  refine lv_sipush (v := 6020) hx hb d_Model_init_68 (by decide) ?_
  have lx7 := hw.1.lt h_q6
  refine wd_newa X hK hw (ty := .int) rfl ac_int 2 rfl (fun h => h) (N' := 6020) (a0 := (6020, .inl (fun _ => 0))) rfl (by decide) (by decide) (by decide) (Nat.le_of_ble_eq_true rfl) (Nat.le_of_ble_eq_true rfl) d_Model_init_71 (fun q7 f15 H eq7 hq7 ef15 hw => ?_)
  have lt7 : q6 < q7 := by rw [eq7]; exact lx7
  have h_b : f15 b = some (.inr (4, [.int 0, .int 0, .int 0, .ref q0, .ref q1, .ref q2, .ref q3, .ref q4, .ref q5, .ref q6, .null, .null, .null, .null, .null, .long 0, .int 0])) := by rw [ef15, wd_un (wd_neF h_b hq7)]; exact h_b
  have h_q0 : f15 q0 = some (.inl (ca 3, 301, .inr (.inl (fun _ => 0)))) := by rw [ef15, wd_un (wd_neF h_q0 hq7)]; exact h_q0
  have h_q1 : f15 q1 = some (.inl (ca 2, 301, .inl (fun _ => 0))) := by rw [ef15, wd_un (wd_neF h_q1 hq7)]; exact h_q1
  have h_q2 : f15 q2 = some (.inl (ca 2, 301, .inl (fun _ => 0))) := by rw [ef15, wd_un (wd_neF h_q2 hq7)]; exact h_q2
  have h_q3 : f15 q3 = some (.inl (ca 2, 301, .inl (fun _ => 0))) := by rw [ef15, wd_un (wd_neF h_q3 hq7)]; exact h_q3
  have h_q4 : f15 q4 = some (.inl (ca 2, 301, .inl (fun _ => 0))) := by rw [ef15, wd_un (wd_neF h_q4 hq7)]; exact h_q4
  have h_q5 : f15 q5 = some (.inl (ca 2, 903, .inl (fun _ => 0))) := by rw [ef15, wd_un (wd_neF h_q5 hq7)]; exact h_q5
  have h_q6 : f15 q6 = some (.inl (ca 2, 6020, .inl (fun _ => 0))) := by rw [ef15, wd_un (wd_neF h_q6 hq7)]; exact h_q6
  have h_q7 : f15 q7 = some (.inl (ca 2, 6020, .inl (fun _ => 0))) := by rw [ef15]; exact wd_us
  refine fp_Model_32 X hK hw hnm h_b rfl rfl d_Model_init_73 (fun f16 H locs ef16 hw => ?_)
  have h_q0 : f16 q0 = some (.inl (ca 3, 301, .inr (.inl (fun _ => 0)))) := by rw [ef16, wd_un (Ne.symm (wd_neA h_b h_q0))]; exact h_q0
  have h_q1 : f16 q1 = some (.inl (ca 2, 301, .inl (fun _ => 0))) := by rw [ef16, wd_un (Ne.symm (wd_neA h_b h_q1))]; exact h_q1
  have h_q2 : f16 q2 = some (.inl (ca 2, 301, .inl (fun _ => 0))) := by rw [ef16, wd_un (Ne.symm (wd_neA h_b h_q2))]; exact h_q2
  have h_q3 : f16 q3 = some (.inl (ca 2, 301, .inl (fun _ => 0))) := by rw [ef16, wd_un (Ne.symm (wd_neA h_b h_q3))]; exact h_q3
  have h_q4 : f16 q4 = some (.inl (ca 2, 301, .inl (fun _ => 0))) := by rw [ef16, wd_un (Ne.symm (wd_neA h_b h_q4))]; exact h_q4
  have h_q5 : f16 q5 = some (.inl (ca 2, 903, .inl (fun _ => 0))) := by rw [ef16, wd_un (Ne.symm (wd_neA h_b h_q5))]; exact h_q5
  have h_q6 : f16 q6 = some (.inl (ca 2, 6020, .inl (fun _ => 0))) := by rw [ef16, wd_un (Ne.symm (wd_neA h_b h_q6))]; exact h_q6
  have h_q7 : f16 q7 = some (.inl (ca 2, 6020, .inl (fun _ => 0))) := by rw [ef16, wd_un (Ne.symm (wd_neA h_b h_q7))]; exact h_q7
  have h_b : f16 b = some (.inr (4, [.int 0, .int 0, .int 0, .ref q0, .ref q1, .ref q2, .ref q3, .ref q4, .ref q5, .ref q6, .ref q7, .null, .null, .null, .null, .long 0, .int 0])) := by rw [ef16]; exact wd_us
  refine lv_aload_n hx hb d_Model_init_76 rfl (lv_at hl 0 rfl) ?_
  refine lv_sipush (v := 6020) hx hb d_Model_init_77 (by decide) ?_
  have lx8 := hw.1.lt h_q7
  refine wd_newa X hK hw (ty := .int) rfl ac_int 2 rfl (fun h => h) (N' := 6020) (a0 := (6020, .inl (fun _ => 0))) rfl (by decide) (by decide) (by decide) (Nat.le_of_ble_eq_true rfl) (Nat.le_of_ble_eq_true rfl) d_Model_init_80 (fun q8 f17 H eq8 hq8 ef17 hw => ?_)
  have lt8 : q7 < q8 := by rw [eq8]; exact lx8
  have h_b : f17 b = some (.inr (4, [.int 0, .int 0, .int 0, .ref q0, .ref q1, .ref q2, .ref q3, .ref q4, .ref q5, .ref q6, .ref q7, .null, .null, .null, .null, .long 0, .int 0])) := by rw [ef17, wd_un (wd_neF h_b hq8)]; exact h_b
  have h_q0 : f17 q0 = some (.inl (ca 3, 301, .inr (.inl (fun _ => 0)))) := by rw [ef17, wd_un (wd_neF h_q0 hq8)]; exact h_q0
  have h_q1 : f17 q1 = some (.inl (ca 2, 301, .inl (fun _ => 0))) := by rw [ef17, wd_un (wd_neF h_q1 hq8)]; exact h_q1
  have h_q2 : f17 q2 = some (.inl (ca 2, 301, .inl (fun _ => 0))) := by rw [ef17, wd_un (wd_neF h_q2 hq8)]; exact h_q2
  have h_q3 : f17 q3 = some (.inl (ca 2, 301, .inl (fun _ => 0))) := by rw [ef17, wd_un (wd_neF h_q3 hq8)]; exact h_q3
  have h_q4 : f17 q4 = some (.inl (ca 2, 301, .inl (fun _ => 0))) := by rw [ef17, wd_un (wd_neF h_q4 hq8)]; exact h_q4
  have h_q5 : f17 q5 = some (.inl (ca 2, 903, .inl (fun _ => 0))) := by rw [ef17, wd_un (wd_neF h_q5 hq8)]; exact h_q5
  have h_q6 : f17 q6 = some (.inl (ca 2, 6020, .inl (fun _ => 0))) := by rw [ef17, wd_un (wd_neF h_q6 hq8)]; exact h_q6
  have h_q7 : f17 q7 = some (.inl (ca 2, 6020, .inl (fun _ => 0))) := by rw [ef17, wd_un (wd_neF h_q7 hq8)]; exact h_q7
  have h_q8 : f17 q8 = some (.inl (ca 2, 6020, .inl (fun _ => 0))) := by rw [ef17]; exact wd_us
  refine fp_Model_35 X hK hw hnm h_b rfl rfl d_Model_init_82 (fun f18 H locs ef18 hw => ?_)
  have h_q0 : f18 q0 = some (.inl (ca 3, 301, .inr (.inl (fun _ => 0)))) := by rw [ef18, wd_un (Ne.symm (wd_neA h_b h_q0))]; exact h_q0
  have h_q1 : f18 q1 = some (.inl (ca 2, 301, .inl (fun _ => 0))) := by rw [ef18, wd_un (Ne.symm (wd_neA h_b h_q1))]; exact h_q1
  have h_q2 : f18 q2 = some (.inl (ca 2, 301, .inl (fun _ => 0))) := by rw [ef18, wd_un (Ne.symm (wd_neA h_b h_q2))]; exact h_q2
  have h_q3 : f18 q3 = some (.inl (ca 2, 301, .inl (fun _ => 0))) := by rw [ef18, wd_un (Ne.symm (wd_neA h_b h_q3))]; exact h_q3
  have h_q4 : f18 q4 = some (.inl (ca 2, 301, .inl (fun _ => 0))) := by rw [ef18, wd_un (Ne.symm (wd_neA h_b h_q4))]; exact h_q4
  have h_q5 : f18 q5 = some (.inl (ca 2, 903, .inl (fun _ => 0))) := by rw [ef18, wd_un (Ne.symm (wd_neA h_b h_q5))]; exact h_q5
  have h_q6 : f18 q6 = some (.inl (ca 2, 6020, .inl (fun _ => 0))) := by rw [ef18, wd_un (Ne.symm (wd_neA h_b h_q6))]; exact h_q6
  have h_q7 : f18 q7 = some (.inl (ca 2, 6020, .inl (fun _ => 0))) := by rw [ef18, wd_un (Ne.symm (wd_neA h_b h_q7))]; exact h_q7
  have h_q8 : f18 q8 = some (.inl (ca 2, 6020, .inl (fun _ => 0))) := by rw [ef18, wd_un (Ne.symm (wd_neA h_b h_q8))]; exact h_q8
  have h_b : f18 b = some (.inr (4, [.int 0, .int 0, .int 0, .ref q0, .ref q1, .ref q2, .ref q3, .ref q4, .ref q5, .ref q6, .ref q7, .ref q8, .null, .null, .null, .long 0, .int 0])) := by rw [ef18]; exact wd_us
  refine lv_aload_n hx hb d_Model_init_85 rfl (lv_at hl 0 rfl) ?_
  refine lv_bipush (v := 20) hx hb d_Model_init_86 (by decide) ?_
  have lx9 := hw.1.lt h_q8
  refine wd_newa X hK hw (ty := .boolean) rfl ac_boolean 4 rfl (fun h => h) (N' := 20) (a0 := (20, .inl (fun _ => 0))) rfl (by decide) (by decide) (by decide) (Nat.le_of_ble_eq_true rfl) (Nat.le_of_ble_eq_true rfl) d_Model_init_88 (fun q9 f19 H eq9 hq9 ef19 hw => ?_)
  have lt9 : q8 < q9 := by rw [eq9]; exact lx9
  have h_b : f19 b = some (.inr (4, [.int 0, .int 0, .int 0, .ref q0, .ref q1, .ref q2, .ref q3, .ref q4, .ref q5, .ref q6, .ref q7, .ref q8, .null, .null, .null, .long 0, .int 0])) := by rw [ef19, wd_un (wd_neF h_b hq9)]; exact h_b
  have h_q0 : f19 q0 = some (.inl (ca 3, 301, .inr (.inl (fun _ => 0)))) := by rw [ef19, wd_un (wd_neF h_q0 hq9)]; exact h_q0
  have h_q1 : f19 q1 = some (.inl (ca 2, 301, .inl (fun _ => 0))) := by rw [ef19, wd_un (wd_neF h_q1 hq9)]; exact h_q1
  have h_q2 : f19 q2 = some (.inl (ca 2, 301, .inl (fun _ => 0))) := by rw [ef19, wd_un (wd_neF h_q2 hq9)]; exact h_q2
  have h_q3 : f19 q3 = some (.inl (ca 2, 301, .inl (fun _ => 0))) := by rw [ef19, wd_un (wd_neF h_q3 hq9)]; exact h_q3
  have h_q4 : f19 q4 = some (.inl (ca 2, 301, .inl (fun _ => 0))) := by rw [ef19, wd_un (wd_neF h_q4 hq9)]; exact h_q4
  have h_q5 : f19 q5 = some (.inl (ca 2, 903, .inl (fun _ => 0))) := by rw [ef19, wd_un (wd_neF h_q5 hq9)]; exact h_q5
  have h_q6 : f19 q6 = some (.inl (ca 2, 6020, .inl (fun _ => 0))) := by rw [ef19, wd_un (wd_neF h_q6 hq9)]; exact h_q6
  have h_q7 : f19 q7 = some (.inl (ca 2, 6020, .inl (fun _ => 0))) := by rw [ef19, wd_un (wd_neF h_q7 hq9)]; exact h_q7
  have h_q8 : f19 q8 = some (.inl (ca 2, 6020, .inl (fun _ => 0))) := by rw [ef19, wd_un (wd_neF h_q8 hq9)]; exact h_q8
  have h_q9 : f19 q9 = some (.inl (ca 4, 20, .inl (fun _ => 0))) := by rw [ef19]; exact wd_us
  refine fp_Model_38 X hK hw hnm h_b rfl rfl d_Model_init_90 (fun f20 H locs ef20 hw => ?_)
  have h_q0 : f20 q0 = some (.inl (ca 3, 301, .inr (.inl (fun _ => 0)))) := by rw [ef20, wd_un (Ne.symm (wd_neA h_b h_q0))]; exact h_q0
  have h_q1 : f20 q1 = some (.inl (ca 2, 301, .inl (fun _ => 0))) := by rw [ef20, wd_un (Ne.symm (wd_neA h_b h_q1))]; exact h_q1
  have h_q2 : f20 q2 = some (.inl (ca 2, 301, .inl (fun _ => 0))) := by rw [ef20, wd_un (Ne.symm (wd_neA h_b h_q2))]; exact h_q2
  have h_q3 : f20 q3 = some (.inl (ca 2, 301, .inl (fun _ => 0))) := by rw [ef20, wd_un (Ne.symm (wd_neA h_b h_q3))]; exact h_q3
  have h_q4 : f20 q4 = some (.inl (ca 2, 301, .inl (fun _ => 0))) := by rw [ef20, wd_un (Ne.symm (wd_neA h_b h_q4))]; exact h_q4
  have h_q5 : f20 q5 = some (.inl (ca 2, 903, .inl (fun _ => 0))) := by rw [ef20, wd_un (Ne.symm (wd_neA h_b h_q5))]; exact h_q5
  have h_q6 : f20 q6 = some (.inl (ca 2, 6020, .inl (fun _ => 0))) := by rw [ef20, wd_un (Ne.symm (wd_neA h_b h_q6))]; exact h_q6
  have h_q7 : f20 q7 = some (.inl (ca 2, 6020, .inl (fun _ => 0))) := by rw [ef20, wd_un (Ne.symm (wd_neA h_b h_q7))]; exact h_q7
  have h_q8 : f20 q8 = some (.inl (ca 2, 6020, .inl (fun _ => 0))) := by rw [ef20, wd_un (Ne.symm (wd_neA h_b h_q8))]; exact h_q8
  have h_q9 : f20 q9 = some (.inl (ca 4, 20, .inl (fun _ => 0))) := by rw [ef20, wd_un (Ne.symm (wd_neA h_b h_q9))]; exact h_q9
  have h_b : f20 b = some (.inr (4, [.int 0, .int 0, .int 0, .ref q0, .ref q1, .ref q2, .ref q3, .ref q4, .ref q5, .ref q6, .ref q7, .ref q8, .ref q9, .null, .null, .long 0, .int 0])) := by rw [ef20]; exact wd_us
  refine lv_aload_n hx hb d_Model_init_93 rfl (lv_at hl 0 rfl) ?_
  refine lv_bipush (v := 20) hx hb d_Model_init_94 (by decide) ?_
  have lx10 := hw.1.lt h_q9
  refine wd_newa X hK hw (ty := .int) rfl ac_int 2 rfl (fun h => h) (N' := 20) (a0 := (20, .inl (fun _ => 0))) rfl (by decide) (by decide) (by decide) (Nat.le_of_ble_eq_true rfl) (Nat.le_of_ble_eq_true rfl) d_Model_init_96 (fun q10 f21 H eq10 hq10 ef21 hw => ?_)
  have lt10 : q9 < q10 := by rw [eq10]; exact lx10
  have h_b : f21 b = some (.inr (4, [.int 0, .int 0, .int 0, .ref q0, .ref q1, .ref q2, .ref q3, .ref q4, .ref q5, .ref q6, .ref q7, .ref q8, .ref q9, .null, .null, .long 0, .int 0])) := by rw [ef21, wd_un (wd_neF h_b hq10)]; exact h_b
  have h_q0 : f21 q0 = some (.inl (ca 3, 301, .inr (.inl (fun _ => 0)))) := by rw [ef21, wd_un (wd_neF h_q0 hq10)]; exact h_q0
  have h_q1 : f21 q1 = some (.inl (ca 2, 301, .inl (fun _ => 0))) := by rw [ef21, wd_un (wd_neF h_q1 hq10)]; exact h_q1
  have h_q2 : f21 q2 = some (.inl (ca 2, 301, .inl (fun _ => 0))) := by rw [ef21, wd_un (wd_neF h_q2 hq10)]; exact h_q2
  have h_q3 : f21 q3 = some (.inl (ca 2, 301, .inl (fun _ => 0))) := by rw [ef21, wd_un (wd_neF h_q3 hq10)]; exact h_q3
  have h_q4 : f21 q4 = some (.inl (ca 2, 301, .inl (fun _ => 0))) := by rw [ef21, wd_un (wd_neF h_q4 hq10)]; exact h_q4
  have h_q5 : f21 q5 = some (.inl (ca 2, 903, .inl (fun _ => 0))) := by rw [ef21, wd_un (wd_neF h_q5 hq10)]; exact h_q5
  have h_q6 : f21 q6 = some (.inl (ca 2, 6020, .inl (fun _ => 0))) := by rw [ef21, wd_un (wd_neF h_q6 hq10)]; exact h_q6
  have h_q7 : f21 q7 = some (.inl (ca 2, 6020, .inl (fun _ => 0))) := by rw [ef21, wd_un (wd_neF h_q7 hq10)]; exact h_q7
  have h_q8 : f21 q8 = some (.inl (ca 2, 6020, .inl (fun _ => 0))) := by rw [ef21, wd_un (wd_neF h_q8 hq10)]; exact h_q8
  have h_q9 : f21 q9 = some (.inl (ca 4, 20, .inl (fun _ => 0))) := by rw [ef21, wd_un (wd_neF h_q9 hq10)]; exact h_q9
  have h_q10 : f21 q10 = some (.inl (ca 2, 20, .inl (fun _ => 0))) := by rw [ef21]; exact wd_us
  refine fp_Model_42 X hK hw hnm h_b rfl rfl d_Model_init_98 (fun f22 H locs ef22 hw => ?_)
  have h_q0 : f22 q0 = some (.inl (ca 3, 301, .inr (.inl (fun _ => 0)))) := by rw [ef22, wd_un (Ne.symm (wd_neA h_b h_q0))]; exact h_q0
  have h_q1 : f22 q1 = some (.inl (ca 2, 301, .inl (fun _ => 0))) := by rw [ef22, wd_un (Ne.symm (wd_neA h_b h_q1))]; exact h_q1
  have h_q2 : f22 q2 = some (.inl (ca 2, 301, .inl (fun _ => 0))) := by rw [ef22, wd_un (Ne.symm (wd_neA h_b h_q2))]; exact h_q2
  have h_q3 : f22 q3 = some (.inl (ca 2, 301, .inl (fun _ => 0))) := by rw [ef22, wd_un (Ne.symm (wd_neA h_b h_q3))]; exact h_q3
  have h_q4 : f22 q4 = some (.inl (ca 2, 301, .inl (fun _ => 0))) := by rw [ef22, wd_un (Ne.symm (wd_neA h_b h_q4))]; exact h_q4
  have h_q5 : f22 q5 = some (.inl (ca 2, 903, .inl (fun _ => 0))) := by rw [ef22, wd_un (Ne.symm (wd_neA h_b h_q5))]; exact h_q5
  have h_q6 : f22 q6 = some (.inl (ca 2, 6020, .inl (fun _ => 0))) := by rw [ef22, wd_un (Ne.symm (wd_neA h_b h_q6))]; exact h_q6
  have h_q7 : f22 q7 = some (.inl (ca 2, 6020, .inl (fun _ => 0))) := by rw [ef22, wd_un (Ne.symm (wd_neA h_b h_q7))]; exact h_q7
  have h_q8 : f22 q8 = some (.inl (ca 2, 6020, .inl (fun _ => 0))) := by rw [ef22, wd_un (Ne.symm (wd_neA h_b h_q8))]; exact h_q8
  have h_q9 : f22 q9 = some (.inl (ca 4, 20, .inl (fun _ => 0))) := by rw [ef22, wd_un (Ne.symm (wd_neA h_b h_q9))]; exact h_q9
  have h_q10 : f22 q10 = some (.inl (ca 2, 20, .inl (fun _ => 0))) := by rw [ef22, wd_un (Ne.symm (wd_neA h_b h_q10))]; exact h_q10
  have h_b : f22 b = some (.inr (4, [.int 0, .int 0, .int 0, .ref q0, .ref q1, .ref q2, .ref q3, .ref q4, .ref q5, .ref q6, .ref q7, .ref q8, .ref q9, .ref q10, .null, .long 0, .int 0])) := by rw [ef22]; exact wd_us
  refine lv_aload_n hx hb d_Model_init_101 rfl (lv_at hl 0 rfl) ?_
  refine lv_bipush (v := 20) hx hb d_Model_init_102 (by decide) ?_
  have lx11 := hw.1.lt h_q10
  refine wd_newa X hK hw (ty := .int) rfl ac_int 2 rfl (fun h => h) (N' := 20) (a0 := (20, .inl (fun _ => 0))) rfl (by decide) (by decide) (by decide) (Nat.le_of_ble_eq_true rfl) (Nat.le_of_ble_eq_true rfl) d_Model_init_104 (fun q11 f23 H eq11 hq11 ef23 hw => ?_)
  have lt11 : q10 < q11 := by rw [eq11]; exact lx11
  have h_b : f23 b = some (.inr (4, [.int 0, .int 0, .int 0, .ref q0, .ref q1, .ref q2, .ref q3, .ref q4, .ref q5, .ref q6, .ref q7, .ref q8, .ref q9, .ref q10, .null, .long 0, .int 0])) := by rw [ef23, wd_un (wd_neF h_b hq11)]; exact h_b
  have h_q0 : f23 q0 = some (.inl (ca 3, 301, .inr (.inl (fun _ => 0)))) := by rw [ef23, wd_un (wd_neF h_q0 hq11)]; exact h_q0
  have h_q1 : f23 q1 = some (.inl (ca 2, 301, .inl (fun _ => 0))) := by rw [ef23, wd_un (wd_neF h_q1 hq11)]; exact h_q1
  have h_q2 : f23 q2 = some (.inl (ca 2, 301, .inl (fun _ => 0))) := by rw [ef23, wd_un (wd_neF h_q2 hq11)]; exact h_q2
  have h_q3 : f23 q3 = some (.inl (ca 2, 301, .inl (fun _ => 0))) := by rw [ef23, wd_un (wd_neF h_q3 hq11)]; exact h_q3
  have h_q4 : f23 q4 = some (.inl (ca 2, 301, .inl (fun _ => 0))) := by rw [ef23, wd_un (wd_neF h_q4 hq11)]; exact h_q4
  have h_q5 : f23 q5 = some (.inl (ca 2, 903, .inl (fun _ => 0))) := by rw [ef23, wd_un (wd_neF h_q5 hq11)]; exact h_q5
  have h_q6 : f23 q6 = some (.inl (ca 2, 6020, .inl (fun _ => 0))) := by rw [ef23, wd_un (wd_neF h_q6 hq11)]; exact h_q6
  have h_q7 : f23 q7 = some (.inl (ca 2, 6020, .inl (fun _ => 0))) := by rw [ef23, wd_un (wd_neF h_q7 hq11)]; exact h_q7
  have h_q8 : f23 q8 = some (.inl (ca 2, 6020, .inl (fun _ => 0))) := by rw [ef23, wd_un (wd_neF h_q8 hq11)]; exact h_q8
  have h_q9 : f23 q9 = some (.inl (ca 4, 20, .inl (fun _ => 0))) := by rw [ef23, wd_un (wd_neF h_q9 hq11)]; exact h_q9
  have h_q10 : f23 q10 = some (.inl (ca 2, 20, .inl (fun _ => 0))) := by rw [ef23, wd_un (wd_neF h_q10 hq11)]; exact h_q10
  have h_q11 : f23 q11 = some (.inl (ca 2, 20, .inl (fun _ => 0))) := by rw [ef23]; exact wd_us
  refine fp_Model_45 X hK hw hnm h_b rfl rfl d_Model_init_106 (fun f24 H locs ef24 hw => ?_)
  have h_q0 : f24 q0 = some (.inl (ca 3, 301, .inr (.inl (fun _ => 0)))) := by rw [ef24, wd_un (Ne.symm (wd_neA h_b h_q0))]; exact h_q0
  have h_q1 : f24 q1 = some (.inl (ca 2, 301, .inl (fun _ => 0))) := by rw [ef24, wd_un (Ne.symm (wd_neA h_b h_q1))]; exact h_q1
  have h_q2 : f24 q2 = some (.inl (ca 2, 301, .inl (fun _ => 0))) := by rw [ef24, wd_un (Ne.symm (wd_neA h_b h_q2))]; exact h_q2
  have h_q3 : f24 q3 = some (.inl (ca 2, 301, .inl (fun _ => 0))) := by rw [ef24, wd_un (Ne.symm (wd_neA h_b h_q3))]; exact h_q3
  have h_q4 : f24 q4 = some (.inl (ca 2, 301, .inl (fun _ => 0))) := by rw [ef24, wd_un (Ne.symm (wd_neA h_b h_q4))]; exact h_q4
  have h_q5 : f24 q5 = some (.inl (ca 2, 903, .inl (fun _ => 0))) := by rw [ef24, wd_un (Ne.symm (wd_neA h_b h_q5))]; exact h_q5
  have h_q6 : f24 q6 = some (.inl (ca 2, 6020, .inl (fun _ => 0))) := by rw [ef24, wd_un (Ne.symm (wd_neA h_b h_q6))]; exact h_q6
  have h_q7 : f24 q7 = some (.inl (ca 2, 6020, .inl (fun _ => 0))) := by rw [ef24, wd_un (Ne.symm (wd_neA h_b h_q7))]; exact h_q7
  have h_q8 : f24 q8 = some (.inl (ca 2, 6020, .inl (fun _ => 0))) := by rw [ef24, wd_un (Ne.symm (wd_neA h_b h_q8))]; exact h_q8
  have h_q9 : f24 q9 = some (.inl (ca 4, 20, .inl (fun _ => 0))) := by rw [ef24, wd_un (Ne.symm (wd_neA h_b h_q9))]; exact h_q9
  have h_q10 : f24 q10 = some (.inl (ca 2, 20, .inl (fun _ => 0))) := by rw [ef24, wd_un (Ne.symm (wd_neA h_b h_q10))]; exact h_q10
  have h_q11 : f24 q11 = some (.inl (ca 2, 20, .inl (fun _ => 0))) := by rw [ef24, wd_un (Ne.symm (wd_neA h_b h_q11))]; exact h_q11
  have h_b : f24 b = some (.inr (4, [.int 0, .int 0, .int 0, .ref q0, .ref q1, .ref q2, .ref q3, .ref q4, .ref q5, .ref q6, .ref q7, .ref q8, .ref q9, .ref q10, .ref q11, .long 0, .int 0])) := by rw [ef24]; exact wd_us
  refine lv_aload_n hx hb d_Model_init_109 rfl (lv_at hl 0 rfl) ?_
  refine lv_iload_n hx hb d_Model_init_110 rfl (lv_at hl 1 rfl) ?_
  refine lv_iconst (v := 1) hx hb d_Model_init_111 (by decide) ?_
  refine lv_icmp_ge (tgt := 119) hx hb d_Model_init_112 (by decide) (fun c25 => ?_) (fun c25 => ?_)
  · skip
    refine lv_iload_n hx hb d_Model_init_119 rfl (lv_at hl 1 rfl) ?_
    refine lv_bipush (v := 100) hx hb d_Model_init_120 (by decide) ?_
    refine lv_icmp_le (tgt := 130) hx hb d_Model_init_122 (by decide) (fun c26 => ?_) (fun c26 => ?_)
    · skip
      refine lv_iload_n hx hb d_Model_init_130 rfl (lv_at hl 1 rfl) ?_
      refine fp_Model_48 X hK hw hnm h_b rfl rfl d_Model_init_131 (fun f27 H locs ef27 hw => ?_)
      have h_q0 : f27 q0 = some (.inl (ca 3, 301, .inr (.inl (fun _ => 0)))) := by rw [ef27, wd_un (Ne.symm (wd_neA h_b h_q0))]; exact h_q0
      have h_q1 : f27 q1 = some (.inl (ca 2, 301, .inl (fun _ => 0))) := by rw [ef27, wd_un (Ne.symm (wd_neA h_b h_q1))]; exact h_q1
      have h_q2 : f27 q2 = some (.inl (ca 2, 301, .inl (fun _ => 0))) := by rw [ef27, wd_un (Ne.symm (wd_neA h_b h_q2))]; exact h_q2
      have h_q3 : f27 q3 = some (.inl (ca 2, 301, .inl (fun _ => 0))) := by rw [ef27, wd_un (Ne.symm (wd_neA h_b h_q3))]; exact h_q3
      have h_q4 : f27 q4 = some (.inl (ca 2, 301, .inl (fun _ => 0))) := by rw [ef27, wd_un (Ne.symm (wd_neA h_b h_q4))]; exact h_q4
      have h_q5 : f27 q5 = some (.inl (ca 2, 903, .inl (fun _ => 0))) := by rw [ef27, wd_un (Ne.symm (wd_neA h_b h_q5))]; exact h_q5
      have h_q6 : f27 q6 = some (.inl (ca 2, 6020, .inl (fun _ => 0))) := by rw [ef27, wd_un (Ne.symm (wd_neA h_b h_q6))]; exact h_q6
      have h_q7 : f27 q7 = some (.inl (ca 2, 6020, .inl (fun _ => 0))) := by rw [ef27, wd_un (Ne.symm (wd_neA h_b h_q7))]; exact h_q7
      have h_q8 : f27 q8 = some (.inl (ca 2, 6020, .inl (fun _ => 0))) := by rw [ef27, wd_un (Ne.symm (wd_neA h_b h_q8))]; exact h_q8
      have h_q9 : f27 q9 = some (.inl (ca 4, 20, .inl (fun _ => 0))) := by rw [ef27, wd_un (Ne.symm (wd_neA h_b h_q9))]; exact h_q9
      have h_q10 : f27 q10 = some (.inl (ca 2, 20, .inl (fun _ => 0))) := by rw [ef27, wd_un (Ne.symm (wd_neA h_b h_q10))]; exact h_q10
      have h_q11 : f27 q11 = some (.inl (ca 2, 20, .inl (fun _ => 0))) := by rw [ef27, wd_un (Ne.symm (wd_neA h_b h_q11))]; exact h_q11
      have h_b : f27 b = some (.inr (4, [.int 0, .int x, .int 0, .ref q0, .ref q1, .ref q2, .ref q3, .ref q4, .ref q5, .ref q6, .ref q7, .ref q8, .ref q9, .ref q10, .ref q11, .long 0, .int 0])) := by rw [ef27]; exact wd_us
      refine lv_iconst (v := 0) hx hb d_Model_init_134 (by decide) ?_
      refine lv_istore_n (lv' := [(2, .int 0), (0, .ref b), (1, .int x)]) hx hb d_Model_init_135 rfl hl (by decide) rfl (fun ls hl => ?_)
      have hmo : my x = x := ((if_pos c25).trans (if_pos c26))
      obtain ⟨AD, hAD⟩ : ∃ AD : Nat → Nat, AD = (fun k => match k with | 0 => q0 | 1 => q1 | 2 => q2 | 3 => q3 | 4 => q4 | 5 => q5 | 6 => q6 | 7 => q7 | 8 => q8 | 9 => q9 | 10 => q10 | _ => q11) := ⟨_, rfl⟩
      have hm : rM f27 ca b AD 0 x 0 0 0 (fun _ => 0) (fun _ _ => 0) := by
        subst hAD
        refine ⟨h_b, h_q0, fun k g1 g2 => ?_, mono_inj (fun k hk => ?_), Nat.zero_le _⟩
        · match k, g1, g2 with
          | 1, _, _ => exact h_q1
          | 2, _, _ => exact h_q2
          | 3, _, _ => exact h_q3
          | 4, _, _ => exact h_q4
          | 5, _, _ => exact h_q5
          | 6, _, _ => exact h_q6
          | 7, _, _ => exact h_q7
          | 8, _, _ => exact h_q8
          | 9, _, _ => exact h_q9
          | 10, _, _ => exact h_q10
          | 11, _, _ => exact h_q11
        · match k, hk with
          | 0, _ => exact lt1
          | 1, _ => exact lt2
          | 2, _ => exact lt3
          | 3, _ => exact lt4
          | 4, _ => exact lt5
          | 5, _ => exact lt6
          | 6, _ => exact lt7
          | 7, _ => exact lt8
          | 8, _ => exact lt9
          | 9, _ => exact lt10
          | 10, _ => exact lt11
      clear hAD
      have loop : ∀ (d i : Nat) (g : Nat → Nat → Int32) (f1 : wd_M) (H : Heap) (locs : List Loc) (ls : Array Slot), 6020 = i + d → wd_I D classes (wd_A f s.heap.size) s.heap f1 H locs → rM f1 ca b AD 0 x 0 0 0 (fun _ => 0) g → (∀ k : Nat, k ≠ 8 → g k = fun _ => 0) → (∀ j : Nat, j < i → g 8 j = -1) → lv_has ls 3 [(2, .int (nI i)), (0, .ref b), (1, .int x)] → W p l e rm_Model_init s m args below meth c H locs 12 20528 Q (F0 m 136 ls []) := by
        intro d
        induction d with
        | zero =>
          intro i g f1 H locs ls hdd hw hm hg0 hg8 hl
          have hin : i = 6020 := by omega
          refine lv_iload_n hx hb d_Model_init_136 rfl (lv_at hl 0 rfl) ?_
          refine lv_sipush (v := 6020) hx hb d_Model_init_137 (by decide) ?_
          refine lv_icmp_ge (tgt := 156) hx hb d_Model_init_140 (by decide) (fun _ => ?_) (fun c => absurd (by rw [hin]; decide) c)
          exact ret _ _ _ _ _ d_Model_init_156 hw ⟨AD, g, by rw [hmo]; exact hm, hg0, fun j hj => hg8 j (by omega)⟩
        | succ d ih =>
          intro i g f1 H locs ls hdd hw hm hg0 hg8 hl
          have hin : i < 6020 := by omega
          refine lv_iload_n hx hb d_Model_init_136 rfl (lv_at hl 0 rfl) ?_
          refine lv_sipush (v := 6020) hx hb d_Model_init_137 (by decide) ?_
          refine lv_icmp_ge (tgt := 156) hx hb d_Model_init_140 (by decide) (fun c => absurd c (nI_ge hin (by decide))) (fun _ => ?_)
          refine lv_aload_n hx hb d_Model_init_143 rfl (lv_at hl 1 rfl) ?_
          refine fg_Model_35 X hK hw hm.1 d_Model_init_144 ?_
          refine lv_iload_n hx hb d_Model_init_147 rfl (lv_at hl 0 rfl) ?_
          refine lv_iconst (v := (-1)) hx hb d_Model_init_148 (by decide) ?_
          refine m_st X hK hw hm (k := 8) (j := i) (by decide) (by decide) rfl (by show i < 6020; omega) d_Model_init_149 (fun f28 H locs hm hw => ?_)
          refine lv_iinc (v := ((nI i) + 1)) (lv' := [(2, .int ((nI i) + 1)), (0, .ref b), (1, .int x)]) hx hb d_Model_init_150 hl (k := 0) rfl rfl (by decide) rfl (fun ls hl => ?_)
          refine lv_goto (tgt := 136) hx hb d_Model_init_153 (by decide) ?_
          refine ih (i + 1) _ _ _ _ ls (by omega) hw hm (fun k hk => by rw [vu_ne hk]; exact hg0 k hk) (fun j hj => ?_) (by rw [nI_succ i]; exact lv_sub hl [0, 1, 2] rfl)
          rw [vu_same]
          by_cases hji : j = i
          · subst hji; exact pk_us
          · rw [pk_un hji]; exact hg8 j (by omega)
      refine W.cs (cells' := 12) (slots' := 20528) rfl rfl ?_
      exact loop 6020 0 (fun _ _ => 0) _ _ _ ls rfl hw hm (fun _ _ => rfl) (fun j hj => absurd hj (Nat.not_lt_zero j)) (lv_sub hl [0, 1, 2] rfl)
    · skip
      refine lv_bipush (v := 100) hx hb d_Model_init_125 (by decide) ?_
      refine lv_goto (tgt := 131) hx hb d_Model_init_127 (by decide) ?_
      refine fp_Model_48 X hK hw hnm h_b rfl rfl d_Model_init_131 (fun f29 H locs ef29 hw => ?_)
      have h_q0 : f29 q0 = some (.inl (ca 3, 301, .inr (.inl (fun _ => 0)))) := by rw [ef29, wd_un (Ne.symm (wd_neA h_b h_q0))]; exact h_q0
      have h_q1 : f29 q1 = some (.inl (ca 2, 301, .inl (fun _ => 0))) := by rw [ef29, wd_un (Ne.symm (wd_neA h_b h_q1))]; exact h_q1
      have h_q2 : f29 q2 = some (.inl (ca 2, 301, .inl (fun _ => 0))) := by rw [ef29, wd_un (Ne.symm (wd_neA h_b h_q2))]; exact h_q2
      have h_q3 : f29 q3 = some (.inl (ca 2, 301, .inl (fun _ => 0))) := by rw [ef29, wd_un (Ne.symm (wd_neA h_b h_q3))]; exact h_q3
      have h_q4 : f29 q4 = some (.inl (ca 2, 301, .inl (fun _ => 0))) := by rw [ef29, wd_un (Ne.symm (wd_neA h_b h_q4))]; exact h_q4
      have h_q5 : f29 q5 = some (.inl (ca 2, 903, .inl (fun _ => 0))) := by rw [ef29, wd_un (Ne.symm (wd_neA h_b h_q5))]; exact h_q5
      have h_q6 : f29 q6 = some (.inl (ca 2, 6020, .inl (fun _ => 0))) := by rw [ef29, wd_un (Ne.symm (wd_neA h_b h_q6))]; exact h_q6
      have h_q7 : f29 q7 = some (.inl (ca 2, 6020, .inl (fun _ => 0))) := by rw [ef29, wd_un (Ne.symm (wd_neA h_b h_q7))]; exact h_q7
      have h_q8 : f29 q8 = some (.inl (ca 2, 6020, .inl (fun _ => 0))) := by rw [ef29, wd_un (Ne.symm (wd_neA h_b h_q8))]; exact h_q8
      have h_q9 : f29 q9 = some (.inl (ca 4, 20, .inl (fun _ => 0))) := by rw [ef29, wd_un (Ne.symm (wd_neA h_b h_q9))]; exact h_q9
      have h_q10 : f29 q10 = some (.inl (ca 2, 20, .inl (fun _ => 0))) := by rw [ef29, wd_un (Ne.symm (wd_neA h_b h_q10))]; exact h_q10
      have h_q11 : f29 q11 = some (.inl (ca 2, 20, .inl (fun _ => 0))) := by rw [ef29, wd_un (Ne.symm (wd_neA h_b h_q11))]; exact h_q11
      have h_b : f29 b = some (.inr (4, [.int 0, .int 100, .int 0, .ref q0, .ref q1, .ref q2, .ref q3, .ref q4, .ref q5, .ref q6, .ref q7, .ref q8, .ref q9, .ref q10, .ref q11, .long 0, .int 0])) := by rw [ef29]; exact wd_us
      refine lv_iconst (v := 0) hx hb d_Model_init_134 (by decide) ?_
      refine lv_istore_n (lv' := [(2, .int 0), (0, .ref b), (1, .int x)]) hx hb d_Model_init_135 rfl hl (by decide) rfl (fun ls hl => ?_)
      have hmo : my x = 100 := ((if_pos c25).trans (if_neg c26))
      obtain ⟨AD, hAD⟩ : ∃ AD : Nat → Nat, AD = (fun k => match k with | 0 => q0 | 1 => q1 | 2 => q2 | 3 => q3 | 4 => q4 | 5 => q5 | 6 => q6 | 7 => q7 | 8 => q8 | 9 => q9 | 10 => q10 | _ => q11) := ⟨_, rfl⟩
      have hm : rM f29 ca b AD 0 100 0 0 0 (fun _ => 0) (fun _ _ => 0) := by
        subst hAD
        refine ⟨h_b, h_q0, fun k g1 g2 => ?_, mono_inj (fun k hk => ?_), Nat.zero_le _⟩
        · match k, g1, g2 with
          | 1, _, _ => exact h_q1
          | 2, _, _ => exact h_q2
          | 3, _, _ => exact h_q3
          | 4, _, _ => exact h_q4
          | 5, _, _ => exact h_q5
          | 6, _, _ => exact h_q6
          | 7, _, _ => exact h_q7
          | 8, _, _ => exact h_q8
          | 9, _, _ => exact h_q9
          | 10, _, _ => exact h_q10
          | 11, _, _ => exact h_q11
        · match k, hk with
          | 0, _ => exact lt1
          | 1, _ => exact lt2
          | 2, _ => exact lt3
          | 3, _ => exact lt4
          | 4, _ => exact lt5
          | 5, _ => exact lt6
          | 6, _ => exact lt7
          | 7, _ => exact lt8
          | 8, _ => exact lt9
          | 9, _ => exact lt10
          | 10, _ => exact lt11
      clear hAD
      have loop : ∀ (d i : Nat) (g : Nat → Nat → Int32) (f1 : wd_M) (H : Heap) (locs : List Loc) (ls : Array Slot), 6020 = i + d → wd_I D classes (wd_A f s.heap.size) s.heap f1 H locs → rM f1 ca b AD 0 100 0 0 0 (fun _ => 0) g → (∀ k : Nat, k ≠ 8 → g k = fun _ => 0) → (∀ j : Nat, j < i → g 8 j = -1) → lv_has ls 3 [(2, .int (nI i)), (0, .ref b), (1, .int x)] → W p l e rm_Model_init s m args below meth c H locs 12 20528 Q (F0 m 136 ls []) := by
        intro d
        induction d with
        | zero =>
          intro i g f1 H locs ls hdd hw hm hg0 hg8 hl
          have hin : i = 6020 := by omega
          refine lv_iload_n hx hb d_Model_init_136 rfl (lv_at hl 0 rfl) ?_
          refine lv_sipush (v := 6020) hx hb d_Model_init_137 (by decide) ?_
          refine lv_icmp_ge (tgt := 156) hx hb d_Model_init_140 (by decide) (fun _ => ?_) (fun c => absurd (by rw [hin]; decide) c)
          exact ret _ _ _ _ _ d_Model_init_156 hw ⟨AD, g, by rw [hmo]; exact hm, hg0, fun j hj => hg8 j (by omega)⟩
        | succ d ih =>
          intro i g f1 H locs ls hdd hw hm hg0 hg8 hl
          have hin : i < 6020 := by omega
          refine lv_iload_n hx hb d_Model_init_136 rfl (lv_at hl 0 rfl) ?_
          refine lv_sipush (v := 6020) hx hb d_Model_init_137 (by decide) ?_
          refine lv_icmp_ge (tgt := 156) hx hb d_Model_init_140 (by decide) (fun c => absurd c (nI_ge hin (by decide))) (fun _ => ?_)
          refine lv_aload_n hx hb d_Model_init_143 rfl (lv_at hl 1 rfl) ?_
          refine fg_Model_35 X hK hw hm.1 d_Model_init_144 ?_
          refine lv_iload_n hx hb d_Model_init_147 rfl (lv_at hl 0 rfl) ?_
          refine lv_iconst (v := (-1)) hx hb d_Model_init_148 (by decide) ?_
          refine m_st X hK hw hm (k := 8) (j := i) (by decide) (by decide) rfl (by show i < 6020; omega) d_Model_init_149 (fun f30 H locs hm hw => ?_)
          refine lv_iinc (v := ((nI i) + 1)) (lv' := [(2, .int ((nI i) + 1)), (0, .ref b), (1, .int x)]) hx hb d_Model_init_150 hl (k := 0) rfl rfl (by decide) rfl (fun ls hl => ?_)
          refine lv_goto (tgt := 136) hx hb d_Model_init_153 (by decide) ?_
          refine ih (i + 1) _ _ _ _ ls (by omega) hw hm (fun k hk => by rw [vu_ne hk]; exact hg0 k hk) (fun j hj => ?_) (by rw [nI_succ i]; exact lv_sub hl [0, 1, 2] rfl)
          rw [vu_same]
          by_cases hji : j = i
          · subst hji; exact pk_us
          · rw [pk_un hji]; exact hg8 j (by omega)
      refine W.cs (cells' := 12) (slots' := 20528) rfl rfl ?_
      exact loop 6020 0 (fun _ _ => 0) _ _ _ ls rfl hw hm (fun _ _ => rfl) (fun j hj => absurd hj (Nat.not_lt_zero j)) (lv_sub hl [0, 1, 2] rfl)
  · skip
    refine lv_iconst (v := 1) hx hb d_Model_init_115 (by decide) ?_
    refine lv_goto (tgt := 131) hx hb d_Model_init_116 (by decide) ?_
    refine fp_Model_48 X hK hw hnm h_b rfl rfl d_Model_init_131 (fun f31 H locs ef31 hw => ?_)
    have h_q0 : f31 q0 = some (.inl (ca 3, 301, .inr (.inl (fun _ => 0)))) := by rw [ef31, wd_un (Ne.symm (wd_neA h_b h_q0))]; exact h_q0
    have h_q1 : f31 q1 = some (.inl (ca 2, 301, .inl (fun _ => 0))) := by rw [ef31, wd_un (Ne.symm (wd_neA h_b h_q1))]; exact h_q1
    have h_q2 : f31 q2 = some (.inl (ca 2, 301, .inl (fun _ => 0))) := by rw [ef31, wd_un (Ne.symm (wd_neA h_b h_q2))]; exact h_q2
    have h_q3 : f31 q3 = some (.inl (ca 2, 301, .inl (fun _ => 0))) := by rw [ef31, wd_un (Ne.symm (wd_neA h_b h_q3))]; exact h_q3
    have h_q4 : f31 q4 = some (.inl (ca 2, 301, .inl (fun _ => 0))) := by rw [ef31, wd_un (Ne.symm (wd_neA h_b h_q4))]; exact h_q4
    have h_q5 : f31 q5 = some (.inl (ca 2, 903, .inl (fun _ => 0))) := by rw [ef31, wd_un (Ne.symm (wd_neA h_b h_q5))]; exact h_q5
    have h_q6 : f31 q6 = some (.inl (ca 2, 6020, .inl (fun _ => 0))) := by rw [ef31, wd_un (Ne.symm (wd_neA h_b h_q6))]; exact h_q6
    have h_q7 : f31 q7 = some (.inl (ca 2, 6020, .inl (fun _ => 0))) := by rw [ef31, wd_un (Ne.symm (wd_neA h_b h_q7))]; exact h_q7
    have h_q8 : f31 q8 = some (.inl (ca 2, 6020, .inl (fun _ => 0))) := by rw [ef31, wd_un (Ne.symm (wd_neA h_b h_q8))]; exact h_q8
    have h_q9 : f31 q9 = some (.inl (ca 4, 20, .inl (fun _ => 0))) := by rw [ef31, wd_un (Ne.symm (wd_neA h_b h_q9))]; exact h_q9
    have h_q10 : f31 q10 = some (.inl (ca 2, 20, .inl (fun _ => 0))) := by rw [ef31, wd_un (Ne.symm (wd_neA h_b h_q10))]; exact h_q10
    have h_q11 : f31 q11 = some (.inl (ca 2, 20, .inl (fun _ => 0))) := by rw [ef31, wd_un (Ne.symm (wd_neA h_b h_q11))]; exact h_q11
    have h_b : f31 b = some (.inr (4, [.int 0, .int 1, .int 0, .ref q0, .ref q1, .ref q2, .ref q3, .ref q4, .ref q5, .ref q6, .ref q7, .ref q8, .ref q9, .ref q10, .ref q11, .long 0, .int 0])) := by rw [ef31]; exact wd_us
    refine lv_iconst (v := 0) hx hb d_Model_init_134 (by decide) ?_
    refine lv_istore_n (lv' := [(2, .int 0), (0, .ref b), (1, .int x)]) hx hb d_Model_init_135 rfl hl (by decide) rfl (fun ls hl => ?_)
    have hmo : my x = 1 := (if_neg c25)
    obtain ⟨AD, hAD⟩ : ∃ AD : Nat → Nat, AD = (fun k => match k with | 0 => q0 | 1 => q1 | 2 => q2 | 3 => q3 | 4 => q4 | 5 => q5 | 6 => q6 | 7 => q7 | 8 => q8 | 9 => q9 | 10 => q10 | _ => q11) := ⟨_, rfl⟩
    have hm : rM f31 ca b AD 0 1 0 0 0 (fun _ => 0) (fun _ _ => 0) := by
      subst hAD
      refine ⟨h_b, h_q0, fun k g1 g2 => ?_, mono_inj (fun k hk => ?_), Nat.zero_le _⟩
      · match k, g1, g2 with
        | 1, _, _ => exact h_q1
        | 2, _, _ => exact h_q2
        | 3, _, _ => exact h_q3
        | 4, _, _ => exact h_q4
        | 5, _, _ => exact h_q5
        | 6, _, _ => exact h_q6
        | 7, _, _ => exact h_q7
        | 8, _, _ => exact h_q8
        | 9, _, _ => exact h_q9
        | 10, _, _ => exact h_q10
        | 11, _, _ => exact h_q11
      · match k, hk with
        | 0, _ => exact lt1
        | 1, _ => exact lt2
        | 2, _ => exact lt3
        | 3, _ => exact lt4
        | 4, _ => exact lt5
        | 5, _ => exact lt6
        | 6, _ => exact lt7
        | 7, _ => exact lt8
        | 8, _ => exact lt9
        | 9, _ => exact lt10
        | 10, _ => exact lt11
    clear hAD
    have loop : ∀ (d i : Nat) (g : Nat → Nat → Int32) (f1 : wd_M) (H : Heap) (locs : List Loc) (ls : Array Slot), 6020 = i + d → wd_I D classes (wd_A f s.heap.size) s.heap f1 H locs → rM f1 ca b AD 0 1 0 0 0 (fun _ => 0) g → (∀ k : Nat, k ≠ 8 → g k = fun _ => 0) → (∀ j : Nat, j < i → g 8 j = -1) → lv_has ls 3 [(2, .int (nI i)), (0, .ref b), (1, .int x)] → W p l e rm_Model_init s m args below meth c H locs 12 20528 Q (F0 m 136 ls []) := by
      intro d
      induction d with
      | zero =>
        intro i g f1 H locs ls hdd hw hm hg0 hg8 hl
        have hin : i = 6020 := by omega
        refine lv_iload_n hx hb d_Model_init_136 rfl (lv_at hl 0 rfl) ?_
        refine lv_sipush (v := 6020) hx hb d_Model_init_137 (by decide) ?_
        refine lv_icmp_ge (tgt := 156) hx hb d_Model_init_140 (by decide) (fun _ => ?_) (fun c => absurd (by rw [hin]; decide) c)
        exact ret _ _ _ _ _ d_Model_init_156 hw ⟨AD, g, by rw [hmo]; exact hm, hg0, fun j hj => hg8 j (by omega)⟩
      | succ d ih =>
        intro i g f1 H locs ls hdd hw hm hg0 hg8 hl
        have hin : i < 6020 := by omega
        refine lv_iload_n hx hb d_Model_init_136 rfl (lv_at hl 0 rfl) ?_
        refine lv_sipush (v := 6020) hx hb d_Model_init_137 (by decide) ?_
        refine lv_icmp_ge (tgt := 156) hx hb d_Model_init_140 (by decide) (fun c => absurd c (nI_ge hin (by decide))) (fun _ => ?_)
        refine lv_aload_n hx hb d_Model_init_143 rfl (lv_at hl 1 rfl) ?_
        refine fg_Model_35 X hK hw hm.1 d_Model_init_144 ?_
        refine lv_iload_n hx hb d_Model_init_147 rfl (lv_at hl 0 rfl) ?_
        refine lv_iconst (v := (-1)) hx hb d_Model_init_148 (by decide) ?_
        refine m_st X hK hw hm (k := 8) (j := i) (by decide) (by decide) rfl (by show i < 6020; omega) d_Model_init_149 (fun f32 H locs hm hw => ?_)
        refine lv_iinc (v := ((nI i) + 1)) (lv' := [(2, .int ((nI i) + 1)), (0, .ref b), (1, .int x)]) hx hb d_Model_init_150 hl (k := 0) rfl rfl (by decide) rfl (fun ls hl => ?_)
        refine lv_goto (tgt := 136) hx hb d_Model_init_153 (by decide) ?_
        refine ih (i + 1) _ _ _ _ ls (by omega) hw hm (fun k hk => by rw [vu_ne hk]; exact hg0 k hk) (fun j hj => ?_) (by rw [nI_succ i]; exact lv_sub hl [0, 1, 2] rfl)
        rw [vu_same]
        by_cases hji : j = i
        · subst hji; exact pk_us
        · rw [pk_un hji]; exact hg8 j (by omega)
    refine W.cs (cells' := 12) (slots' := 20528) rfl rfl ?_
    exact loop 6020 0 (fun _ _ => 0) _ _ _ ls rfl hw hm (fun _ _ => rfl) (fun j hj => absurd hj (Nat.not_lt_zero j)) (lv_sub hl [0, 1, 2] rfl)
end
section
/-! the class's picture of its cells, and what writes do to it -/
def setL (x : PT) (L : List TR) : PT := (x.1, x.2.1, x.2.2.1, x.2.2.2.1, x.2.2.2.2.1, x.2.2.2.2.2.1, x.2.2.2.2.2.2.1, L)
theorem vp_uu {α : Type} {f : Nat → α} {k : Nat} {v w : α} : va_up (va_up f k v) k w = va_up f k w := by
  funext x
  by_cases h : x = k <;> simp [va_up, h]
theorem vp_us {α : Type} {f : Nat → α} {k : Nat} {v : α} : va_up f k v k = v := by simp [va_up]
theorem vp_un {α : Type} {f : Nat → α} {k j : Nat} {v : α} (h : j ≠ k) : va_up f k v j = f j := by simp [va_up, h]
theorem eT_inj {a b c e a' b' c' e' : Int32} {d d' : Option Nat} (h : (eT a b c d e : va_E) = eT a' b' c' d' e') : a = a' ∧ b = b' ∧ c = c' ∧ e = e' := by
  simp only [Sum.inr.injEq, Prod.mk.injEq, List.cons.injEq, Value.int.injEq] at h
  exact ⟨h.2.1, h.2.2.1, h.2.2.2.1, h.2.2.2.2.2.1⟩
theorem cx_off {f : wd_M} {no no' : Int32} {q : Nat} {ck to : Int32} {ea : Option Nat} {te : Int32} {e : va_E} (hq : f q = some (eT no ck to ea te)) (hn : no' ≠ no) : ∀ (L : List TR) (r : Option Nat), cx f no' L r → cx (wd_up f q e) no' L r := by
  intro L
  induction L with
  | nil => intro r h; exact h
  | cons t L ih =>
    intro r h
    obtain ⟨h1, er, h2, h3⟩ := h
    refine ⟨h1, er, ?_, ih er h3⟩
    rw [wd_un (fun z => ?_)]
    · exact h2
    · rw [z, hq] at h2
      exact hn (eT_inj (Option.some.inj h2)).1.symm
theorem cx_mem {f : wd_M} {no : Int32} : ∀ (L : List TR) (r : Option Nat), cx f no L r → ∀ t ∈ L, ∃ er : Option Nat, f t.1 = some (eT no t.2.1 t.2.2.1 er t.2.2.2) := by
  intro L
  induction L with
  | nil => intro r _ t ht; cases ht
  | cons s L ih =>
    intro r h t ht
    obtain ⟨h1, er, h2, h3⟩ := h
    rcases List.mem_cons.mp ht with rfl | ht
    · exact ⟨er, h2⟩
    · exact ih er h3 t ht
section CREP
variable {f : wd_M} {g : Nat → Option Nat} {n : Nat} {P : Nat → PT} {K : Nat → KT}
theorem rk_ne (h : rk f g K) {i j : Nat} (hi : i < 20) (hj : j < 20) (hne : i ≠ j) : kAd (K i) ≠ kAd (K j) := by
  intro q
  have h1 := (h i hi).2
  have h2 := (h j hj).2
  rw [q, h2] at h1
  have e0 : nI j = nI i := by
    have := h1
    simp only [Option.some.injEq, Sum.inr.injEq, Prod.mk.injEq, List.cons.injEq, Value.int.injEq] at this
    exact this.2.1
  rw [nI_eq (by omega) (by omega)] at e0
  omega
theorem rk_set (h : rk f g K) {j : Nat} (hj : j < 20) {x : KT} (hx : kAd x = kAd (K j)) : rk (wd_up f (kAd (K j)) (eJ (nI j) x)) g (va_up K j x) := by
  intro i hi
  by_cases hij : i = j
  · subst hij
    rw [vp_us, hx]
    exact ⟨(h i hi).1, wd_us⟩
  · rw [vp_un hij]
    exact ⟨(h i hi).1, by rw [wd_un (rk_ne h hi hj hij)]; exact (h i hi).2⟩
theorem rk_new (h : rk f g K) {q : Nat} {e : va_E} (hq : f q = none) : rk (wd_up f q e) g K := fun j hj => ⟨(h j hj).1, by rw [wd_un (wd_neF (h j hj).2 hq)]; exact (h j hj).2⟩
theorem rk_arr (h : rk f g K) {q : Nat} {e : va_E} {x : ClassId × vp_A} (hq : f q = some (.inl x)) : rk (wd_up f q e) g K := fun j hj => ⟨(h j hj).1, by rw [wd_un (wd_neA (h j hj).2 hq)]; exact (h j hj).2⟩
theorem rp_new (h : rp f g n P) {q : Nat} {e : va_E} (hq : f q = none) : rp (wd_up f q e) g n P := by
  refine ⟨h.1, fun j hj => ?_, h.2.2⟩
  obtain ⟨h1, lb, h4, h5⟩ := h.2.1 j hj
  exact ⟨h1, lb, by rw [wd_un (wd_neF h4 hq)]; exact h4, cx_upN hq h5⟩
theorem rp_turn (h : rp f g n P) {i : Nat} (hi : i < n) {q : Nat} {ck to : Int32} {ea : Option Nat} {te x : Int32} (hq : f q = some (eT (nI (i + 1)) ck to ea te)) : rp (wd_up f q (eT (nI (i + 1)) ck to ea x)) g n (va_up P i (setL (P i) (sE q x (pL (P i))))) := by
  refine ⟨h.1, fun j hj => ?_, h.2.2⟩
  obtain ⟨h1, lb, h4, h5⟩ := h.2.1 j hj
  have hn := h.1
  by_cases hji : j = i
  · subst hji
    rw [vp_us]
    exact ⟨h1, lb, by rw [show pAd (setL (P j) (sE q x (pL (P j)))) = pAd (P j) from rfl, wd_un (wd_ne h4 hq (by decide))]; exact h4, cx_entry hq _ _ h5⟩
  · rw [vp_un hji]
    exact ⟨h1, lb, by rw [wd_un (wd_ne h4 hq (by decide))]; exact h4, cx_off hq (fun z => hji (by rw [nI_eq (by omega) (by omega)] at z; omega)) _ _ h5⟩
end CREP
/-- the class's object stands for this state -/
def rC (f : wd_M) (ca : Nat → ClassId) (a : Nat) (mo : Int32) (nw : Int64) (lt : Int32) (n : Nat) (P : Nat → PT) (K : Nat → KT) : Prop :=
  ∃ (pa ka : Nat) (gp gk : Nat → Option Nat), f a = some (eR mo pa ka (nI n) nw lt) ∧ f pa = some (eA (ca 0) 300 gp) ∧ f ka = some (eA (ca 1) 20 gk) ∧ rp f gp n P ∧ rk f gk K ∧ pa ≠ ka
section CREP2
variable {f f1 f' : wd_M} {ca : Nat → ClassId} {a : Nat} {mo : Int32} {nw : Int64} {lt : Int32} {n : Nat} {P : Nat → PT} {K : Nat → KT}
/-- a clerk is written -/
theorem rC_clerk (h : rC f ca a mo nw lt n P K) {j : Nat} (hj : j < 20) {x : KT} (hx : kAd x = kAd (K j)) : rC (wd_up f (kAd (K j)) (eJ (nI j) x)) ca a mo nw lt n P (va_up K j x) := by
  obtain ⟨pa, ka, gp, gk, h1, h2, h3, h4, h5, h6⟩ := h
  have hk := (h5 j hj).2
  exact ⟨pa, ka, gp, gk, by rw [wd_un (wd_ne h1 hk (by decide))]; exact h1, by rw [wd_un (Ne.symm (wd_neA hk h2))]; exact h2, by rw [wd_un (Ne.symm (wd_neA hk h3))]; exact h3, rp_off h4 hk (by decide) (by decide), rk_set h5 hj hx, h6⟩
/-- an entry is written into a turn of picture i -/
theorem rC_turn (h : rC f ca a mo nw lt n P K) {i : Nat} (hi : i < n) {q : Nat} {ck to : Int32} {ea : Option Nat} {te x : Int32} (hq : f q = some (eT (nI (i + 1)) ck to ea te)) : rC (wd_up f q (eT (nI (i + 1)) ck to ea x)) ca a mo nw lt n (va_up P i (setL (P i) (sE q x (pL (P i))))) K := by
  obtain ⟨pa, ka, gp, gk, h1, h2, h3, h4, h5, h6⟩ := h
  exact ⟨pa, ka, gp, gk, by rw [wd_un (wd_ne h1 hq (by decide))]; exact h1, by rw [wd_un (Ne.symm (wd_neA hq h2))]; exact h2, by rw [wd_un (Ne.symm (wd_neA hq h3))]; exact h3, rp_turn h4 hi hq, rk_off h5 hq (by decide), h6⟩
/-- a new cell -/
theorem rC_new (h : rC f ca a mo nw lt n P K) {q : Nat} {e : va_E} (hq : f q = none) : rC (wd_up f q e) ca a mo nw lt n P K := by
  obtain ⟨pa, ka, gp, gk, h1, h2, h3, h4, h5, h6⟩ := h
  exact ⟨pa, ka, gp, gk, by rw [wd_un (wd_neF h1 hq)]; exact h1, by rw [wd_un (wd_neF h2 hq)]; exact h2, by rw [wd_un (wd_neF h3 hq)]; exact h3, rp_new h4 hq, rk_new h5 hq, h6⟩
/-- a picture is written -/
theorem rC_pic (h : rC f ca a mo nw lt n P K) {i : Nat} (hi : i < n) {x : PT} {la : Option Nat} (hx : pAd x = pAd (P i)) (hc : cx f (nI (i + 1)) (pL x) la) : rC (wd_up f (pAd (P i)) (eQ (nI (i + 1)) x la)) ca a mo nw lt n (va_up P i x) K := by
  obtain ⟨pa, ka, gp, gk, h1, h2, h3, h4, h5, h6⟩ := h
  obtain ⟨-, lb, hp, -⟩ := h4.2.1 i hi
  exact ⟨pa, ka, gp, gk, by rw [wd_un (wd_ne h1 hp (by decide))]; exact h1, by rw [wd_un (Ne.symm (wd_neA hp h2))]; exact h2, by rw [wd_un (Ne.symm (wd_neA hp h3))]; exact h3, rp_set h4 hi hx (cx_upC hp (by decide) hc), rk_off h5 hp (by decide), h6⟩
/-- the object itself is written -/
theorem rC_obj (h : rC f ca a mo nw lt n P K) {mo' : Int32} {nw' : Int64} {lt' : Int32} (hf : ∀ (pa ka : Nat) (md : Int32), f a = some (eR mo pa ka md nw lt) → f' = wd_up f a (eR mo' pa ka md nw' lt')) : rC f' ca a mo' nw' lt' n P K := by
  obtain ⟨pa, ka, gp, gk, h1, h2, h3, h4, h5, h6⟩ := h
  rw [hf pa ka _ h1]
  exact ⟨pa, ka, gp, gk, wd_us, by rw [wd_un (Ne.symm (wd_neA h1 h2))]; exact h2, by rw [wd_un (Ne.symm (wd_neA h1 h3))]; exact h3, rp_off h4 h1 (by decide) (by decide), rk_off h5 h1 (by decide), h6⟩
end CREP2
/-- a turn known by its clerk: its cell -/
theorem rp_turnAt {f : wd_M} {g : Nat → Option Nat} {n : Nat} {P : Nat → PT} (h : rp f g n P) {i : Nat} (hi : i < n) {t : TR} (ht : t ∈ pL (P i)) : ∃ er : Option Nat, f t.1 = some (eT (nI (i + 1)) t.2.1 t.2.2.1 er t.2.2.2) := by
  obtain ⟨-, la, -, hc⟩ := h.2.1 i hi
  exact cx_mem _ _ hc t ht
end
section
/-! the two sides' states side by side: lemmas on chains and tables -/
def tR (g : Nat → Nat → Int32) (i j : Nat) (t : TR) : Prop := g 7 (20 * i + j) = t.2.2.1 ∧ ((t.2.2.2 = -1 ∧ g 6 (20 * i + j) = 2 ∧ g 8 (20 * i + j) = -1) ∨ (t.2.2.2 = -2 ∧ g 6 (20 * i + j) = 1 ∧ g 8 (20 * i + j) = -1) ∨ (¬ t.2.2.2 < 0 ∧ g 6 (20 * i + j) = 3 ∧ g 8 (20 * i + j) = t.2.2.2))
def lR (g : Nat → Nat → Int32) (i : Nat) (L : List TR) : Prop := L.Pairwise (fun s t => s.2.1 ≠ t.2.1) ∧ (∀ t ∈ L, ∃ j : Nat, j < 20 ∧ t.2.1 = nI j ∧ tR g i j t) ∧ ∀ j : Nat, j < 20 → (∀ t ∈ L, t.2.1 ≠ nI j) → g 6 (20 * i + j) = 0 ∧ g 8 (20 * i + j) = -1
def cA : List TR → Nat
  | [] => 0
  | t :: L => if t.2.2.2 < 0 then cA L else cA L + 1
def cH : List TR → Nat
  | [] => 0
  | t :: L => if t.2.2.2 = -1 then cH L + 1 else cH L
def fO (ck : Int32) : List TR → Option Int32
  | [] => none
  | t :: L => if t.2.1 = ck then some t.2.2.2 else fO ck L
def cJ (L : List TR) : Nat → Nat
  | 0 => 0
  | m + 1 => if fO (nI m) L = some (-1) then cJ L m + 1 else cJ L m
theorem tk_sum : ∀ (L : List TR), (∀ t ∈ L, t.2.2.2 = -1 ∨ t.2.2.2 = -2 ∨ ¬ t.2.2.2 < 0) → tk L = cA L + cH L := by
  intro L
  induction L with
  | nil => intro _; rfl
  | cons t L ih =>
    intro h
    have h1 := ih (fun s hs => h s (List.mem_cons_of_mem _ hs))
    have h2 := h t List.mem_cons_self
    rcases h2 with e | e | e
    · show (if t.2.2.2 = -2 then tk L else tk L + 1) = (if t.2.2.2 < 0 then cA L else cA L + 1) + (if t.2.2.2 = -1 then cH L + 1 else cH L)
      rw [if_neg (by rw [e]; decide), if_pos (by rw [e]; decide), if_pos e, h1]
      omega
    · show (if t.2.2.2 = -2 then tk L else tk L + 1) = (if t.2.2.2 < 0 then cA L else cA L + 1) + (if t.2.2.2 = -1 then cH L + 1 else cH L)
      rw [if_pos e, if_pos (by rw [e]; decide), if_neg (by rw [e]; decide), h1]
    · have e1 : ¬ t.2.2.2 = -2 := fun z => e (by rw [z]; decide)
      have e2 : ¬ t.2.2.2 = -1 := fun z => e (by rw [z]; decide)
      simp only [tk, cA, cH]
      rw [if_neg e1, if_neg e, if_neg e2, h1]
      omega
theorem fO_none {ck : Int32} : ∀ (L : List TR), (∀ t ∈ L, t.2.1 ≠ ck) → fO ck L = none := by
  intro L
  induction L with
  | nil => intro _; rfl
  | cons t L ih =>
    intro h
    simp only [fO]
    rw [if_neg (h t List.mem_cons_self)]
    exact ih (fun s hs => h s (List.mem_cons_of_mem _ hs))
theorem fO_mem {ck e : Int32} : ∀ (L : List TR), fO ck L = some e → ∃ t ∈ L, t.2.1 = ck ∧ t.2.2.2 = e := by
  intro L
  induction L with
  | nil => intro h; cases h
  | cons t L ih =>
    intro h
    simp only [fO] at h
    by_cases hc : t.2.1 = ck
    · rw [if_pos hc] at h
      exact ⟨t, List.mem_cons_self, hc, Option.some.inj h⟩
    · rw [if_neg hc] at h
      obtain ⟨s, hs, h1, h2⟩ := ih h
      exact ⟨s, List.mem_cons_of_mem _ hs, h1, h2⟩
theorem fO_of {ck : Int32} : ∀ (L : List TR), L.Pairwise (fun s t => s.2.1 ≠ t.2.1) → ∀ t ∈ L, t.2.1 = ck → fO ck L = some t.2.2.2 := by
  intro L
  induction L with
  | nil => intro _ t ht; cases ht
  | cons s L ih =>
    intro hp t ht hc
    rw [List.pairwise_cons] at hp
    simp only [fO]
    rcases List.mem_cons.mp ht with rfl | ht
    · rw [if_pos hc]
    · rw [if_neg (fun z => hp.1 t ht (z.trans hc.symm))]
      exact ih hp.2 t ht hc
theorem cJ_cons {t : TR} {L : List TR} {j0 : Nat} (hj0 : j0 < 20) (hc : t.2.1 = nI j0) (hn : ∀ s ∈ L, s.2.1 ≠ nI j0) : ∀ m : Nat, m ≤ 20 → cJ (t :: L) m = cJ L m + (if t.2.2.2 = -1 ∧ j0 < m then 1 else 0) := by
  intro m
  induction m with
  | zero => intro _; simp [cJ]
  | succ m ih =>
    intro hm
    have h1 := ih (by omega)
    by_cases hmj : m = j0
    · subst hmj
      have hfL : fO (nI m) L = none := fO_none L hn
      have hf : fO (nI m) (t :: L) = some t.2.2.2 := by simp only [fO]; rw [if_pos hc]
      simp only [cJ, hfL, hf, h1]
      by_cases he : t.2.2.2 = -1
      · simp [he]
      · simp [he]
    · have hne : ¬ t.2.1 = nI m := fun z => by
        rw [hc, nI_eq (by omega) (by omega)] at z
        omega
      have hf : fO (nI m) (t :: L) = fO (nI m) L := by simp only [fO]; rw [if_neg hne]
      simp only [cJ, hf, h1]
      by_cases hx : fO (nI m) L = some (-1)
      · rw [if_pos hx, if_pos hx]
        by_cases he : t.2.2.2 = -1 ∧ j0 < m
        · rw [if_pos he, if_pos ⟨he.1, by omega⟩]
        · rw [if_neg he, if_neg (fun z => he ⟨z.1, by omega⟩)]
      · rw [if_neg hx, if_neg hx]
        by_cases he : t.2.2.2 = -1 ∧ j0 < m
        · rw [if_pos he, if_pos ⟨he.1, by omega⟩]
        · rw [if_neg he, if_neg (fun z => he ⟨z.1, by omega⟩)]
theorem cJ_cH : ∀ (L : List TR), L.Pairwise (fun s t => s.2.1 ≠ t.2.1) → (∀ t ∈ L, ∃ j : Nat, j < 20 ∧ t.2.1 = nI j) → cJ L 20 = cH L := by
  intro L
  induction L with
  | nil =>
    intro _ _
    have : ∀ m, cJ [] m = 0 := by
      intro m
      induction m with
      | zero => rfl
      | succ m ih => simp [cJ, fO, ih]
    rw [this]
    rfl
  | cons t L ih =>
    intro hp hj
    rw [List.pairwise_cons] at hp
    obtain ⟨j0, hj0, hc⟩ := hj t List.mem_cons_self
    rw [cJ_cons hj0 hc (fun s hs z => hp.1 s hs (hc.trans z.symm)) 20 (Nat.le_refl _), ih hp.2 (fun s hs => hj s (List.mem_cons_of_mem _ hs))]
    simp only [cH]
    by_cases he : t.2.2.2 = -1
    · rw [if_pos ⟨he, hj0⟩, if_pos he]
    · rw [if_neg (fun z => he z.1), if_neg he]
      rfl
section LR
variable {g : Nat → Nat → Int32} {i : Nat} {L : List TR}
theorem lR_at (h : lR g i L) {j : Nat} (hj : j < 20) {t : TR} (ht : t ∈ L) (hc : t.2.1 = nI j) : tR g i j t := by
  obtain ⟨j', hj', hc', ht'⟩ := h.2.1 t ht
  have : j' = j := by
    have e := hc'.symm.trans hc
    rw [nI_eq (by omega) (by omega)] at e
    exact e
  subst this
  exact ht'
theorem lR_ex (h : lR g i L) {j : Nat} (hj : j < 20) (hd : ¬ g 6 (20 * i + j) = 0) : ∃ t ∈ L, t.2.1 = nI j := by
  by_cases hx : ∃ t ∈ L, t.2.1 = nI j
  · exact hx
  · exact absurd (h.2.2 j hj (fun t ht z => hx ⟨t, ht, z⟩)).1 hd
theorem lR_fO (h : lR g i L) {j : Nat} (hj : j < 20) : (fO (nI j) L = some (-1)) ↔ g 6 (20 * i + j) = 2 := by
  constructor
  · intro hf
    obtain ⟨t, ht, hc, he⟩ := fO_mem L hf
    rcases (lR_at h hj ht hc).2 with z | z | z
    · exact z.2.1
    · rw [he] at z; exact absurd z.1 (by decide)
    · rw [he] at z; exact absurd (by decide) z.1
  · intro hg
    obtain ⟨t, ht, hc⟩ := lR_ex h hj (by rw [hg]; decide)
    rw [fO_of L h.1 t ht hc]
    rcases (lR_at h hj ht hc).2 with z | z | z
    · rw [z.1]
    · rw [hg] at z; exact absurd z.2.1 (by decide)
    · rw [hg] at z; exact absurd z.2.1 (by decide)
theorem lR_hc (h : lR g i L) : hc (g 6) i 20 = cH L := by
  have key : ∀ m : Nat, m ≤ 20 → hc (g 6) i m = cJ L m := by
    intro m
    induction m with
    | zero => intro _; rfl
    | succ m ih =>
      intro hm
      simp only [hc, cJ]
      rw [ih (by omega)]
      by_cases hx : g 6 (20 * i + m) = 2
      · rw [if_pos hx, if_pos ((lR_fO h (by omega)).mpr hx)]
      · rw [if_neg hx, if_neg (fun z => hx ((lR_fO h (by omega)).mp z))]
  rw [key 20 (Nat.le_refl _)]
  exact cJ_cH L h.1 (fun t ht => by obtain ⟨j, hj, hc, -⟩ := h.2.1 t ht; exact ⟨j, hj, hc⟩)
theorem lR_tk (h : lR g i L) : tk L = cA L + hc (g 6) i 20 := by
  rw [lR_hc h]
  exact tk_sum L (fun t ht => by
    obtain ⟨j, -, -, -, z | z | z⟩ := h.2.1 t ht
    · exact Or.inl z.1
    · exact Or.inr (Or.inl z.1)
    · exact Or.inr (Or.inr z.1))
theorem bar_iff {no o wa : Int32} : ∀ (L : List TR), bar no o wa L = true ↔ ∃ t ∈ L, t.2.1 = no ∨ ((t.2.2.1 = o ∧ ¬ t.2.2.2 = -2) ∧ wa = 2) := by
  intro L
  induction L with
  | nil => simp [bar]
  | cons t L ih =>
    simp only [bar, Bool.or_eq_true, Bool.and_eq_true, decide_eq_true_eq, Bool.not_eq_true', decide_eq_false_iff_not, List.mem_cons, exists_eq_or_imp, ih]
theorem aln_iff {d w : Nat → Int32} {o : Int32} {i : Nat} : ∀ m : Nat, aln d w o i m = true ↔ ∀ j : Nat, j < m → ¬ (¬ d (20 * i + j) ≤ 1 ∧ w (20 * i + j) = o) := by
  intro m
  induction m with
  | zero => simp [aln]
  | succ m ih =>
    simp only [aln, Bool.and_eq_true, ih, Bool.not_eq_true', Bool.and_eq_false_iff, Bool.not_eq_false', decide_eq_true_eq, decide_eq_false_iff_not]
    constructor
    · rintro ⟨h1, h2⟩ j hj ⟨z1, z2⟩
      by_cases hjm : j = m
      · subst hjm
        rcases h2 with h2 | h2
        · exact z1 h2
        · exact h2 z2
      · exact h1 j (by omega) ⟨z1, z2⟩
    · intro h
      refine ⟨fun j hj => h j (by omega), ?_⟩
      by_cases z1 : d (20 * i + m) ≤ 1
      · exact Or.inl z1
      · exact Or.inr (fun z2 => h m (by omega) ⟨z1, z2⟩)
theorem lR_bar (h : lR g i L) {j : Nat} (hj : j < 20) {o wa : Int32} : (¬ bar (nI j) o wa L = true) ↔ (g 6 (20 * i + j) = 0 ∧ (aln (g 6) (g 7) o i 20 = true ∨ ¬ wa = 2)) := by
  rw [bar_iff]
  constructor
  · intro hb
    refine ⟨?_, ?_⟩
    · by_cases hd : g 6 (20 * i + j) = 0
      · exact hd
      · obtain ⟨t, ht, hc⟩ := lR_ex h hj hd
        exact absurd ⟨t, ht, Or.inl hc⟩ hb
    · by_cases hw : wa = 2
      · refine Or.inl ((aln_iff 20).mpr (fun m hm z => ?_))
        obtain ⟨t, ht, hc⟩ := lR_ex h hm (fun q => z.1 (by rw [q]; decide))
        have ht' := lR_at h hm ht hc
        refine hb ⟨t, ht, Or.inr ⟨⟨ht'.1.symm.trans z.2, fun e => ?_⟩, hw⟩⟩
        rcases ht'.2 with y | y | y
        · rw [e] at y; exact absurd y.1 (by decide)
        · exact z.1 (by rw [y.2.1]; decide)
        · rw [e] at y; exact absurd (by decide) y.1
      · exact Or.inr hw
  · rintro ⟨hd, ha⟩ ⟨t, ht, hx⟩
    obtain ⟨j', hj', hc', ht'⟩ := h.2.1 t ht
    rcases hx with hx | ⟨⟨ho, he⟩, hw⟩
    · have hz := lR_at h hj ht hx
      rcases hz.2 with y | y | y <;> rw [hd] at y <;> exact absurd y.2.1 (by decide)
    · rcases ha with ha | ha
      · refine (aln_iff 20).mp ha j' hj' ⟨fun q => ?_, ht'.1.trans ho⟩
        rcases ht'.2 with y | y | y
        · rw [y.2.1] at q; exact absurd q (by decide)
        · exact he y.1
        · rw [y.2.1] at q; exact absurd q (by decide)
      · exact ha hw
theorem fndE_fO {ck : Int32} : ∀ (L : List TR), fndE ck L = (fO ck L).getD (-1) := by
  intro L
  induction L with
  | nil => rfl
  | cons t L ih =>
    simp only [fndE, fO]
    by_cases h : t.2.1 = ck
    · rw [if_pos h, if_pos h]; rfl
    · rw [if_neg h, if_neg h, ih]
/-- what a clerk said, on both sides -/
theorem lR_said (h : lR g i L) {j : Nat} (hj : j < 20) : (fndE (nI j) L < 0 ∧ g 8 (20 * i + j) < 0) ∨ (¬ fndE (nI j) L < 0 ∧ g 8 (20 * i + j) = fndE (nI j) L) := by
  rw [fndE_fO]
  by_cases hx : ∃ t ∈ L, t.2.1 = nI j
  · obtain ⟨t, ht, hc⟩ := hx
    rw [fO_of L h.1 t ht hc]
    show (t.2.2.2 < 0 ∧ _) ∨ (¬ t.2.2.2 < 0 ∧ _ = t.2.2.2)
    rcases (lR_at h hj ht hc).2 with y | y | y
    · exact Or.inl ⟨by rw [y.1]; decide, by rw [y.2.2]; decide⟩
    · exact Or.inl ⟨by rw [y.1]; decide, by rw [y.2.2]; decide⟩
    · exact Or.inr ⟨y.1, y.2.2⟩
  · rw [fO_none L (fun t ht z => hx ⟨t, ht, z⟩)]
    exact Or.inl ⟨by decide, by rw [(h.2.2 j hj (fun t ht z => hx ⟨t, ht, z⟩)).2]; decide⟩
end LR
/-! the best free picture: from the first up, and from the last down -/
def isB (F : Nat → Bool) (d : Nat → Int64) (lo hi b : Nat) : Prop := lo ≤ b ∧ b < hi ∧ F b = true ∧ ∀ i : Nat, lo ≤ i → i < hi → F i = true → (i < b → d b < d i) ∧ ¬ d i < d b
theorem isB_eq {F : Nat → Bool} {d : Nat → Int64} {lo hi b b' : Nat} (h : isB F d lo hi b) (h' : isB F d lo hi b') : b = b' := by
  obtain ⟨h1, h2, h3, h4⟩ := h
  obtain ⟨g1, g2, g3, g4⟩ := h'
  rcases Nat.lt_trichotomy b b' with q | q | q
  · exact absurd ((g4 b h1 h2 h3).1 q) (h4 b' g1 g2 g3).2
  · exact q
  · exact absurd ((h4 b' g1 g2 g3).1 q) (g4 b h1 h2 h3).2
theorem l64_trans {x y z : Int64} (h1 : x < y) (h2 : y < z) : x < z := by
  rw [Int64.lt_iff_toInt_lt] at *; omega
theorem l64_nlt {x y z : Int64} (h1 : ¬ x < y) (h2 : x < z) : y < z := by
  rw [Int64.lt_iff_toInt_lt] at *; omega
theorem l64_nn {x y z : Int64} (h1 : ¬ x < y) (h2 : ¬ y < z) : ¬ x < z := by
  rw [Int64.lt_iff_toInt_lt] at *; omega
theorem l64_as {x y : Int64} (h1 : x < y) : ¬ y < x := by
  rw [Int64.lt_iff_toInt_lt] at *; omega
theorem l64_ir {x : Int64} : ¬ x < x := by
  rw [Int64.lt_iff_toInt_lt]; omega
theorem gvn_spec {P : Nat → PT} {no o ks : Int32} : ∀ n : Nat, (gvn P no o ks n = none → ∀ i : Nat, i < n → ¬ frP (P i) no o ks = true) ∧ (∀ b : Nat, gvn P no o ks n = some b → isB (fun i => frP (P i) no o ks) (fun i => pDu (P i)) 0 n b) := by
  intro n
  induction n with
  | zero => exact ⟨fun _ i hi => absurd hi (Nat.not_lt_zero i), fun b h => by cases h⟩
  | succ n ih =>
    rcases hg : gvn P no o ks n with _ | b0
    · have hn := ih.1 hg
      by_cases hf : frP (P n) no o ks = true
      · have e : gvn P no o ks (n + 1) = some n := (gv_nt hg.symm hf).symm
        rw [e]
        refine ⟨fun z => (by cases z), fun b hb => ?_⟩
        cases hb
        refine ⟨Nat.zero_le _, Nat.lt_succ_self n, hf, fun i _ hi hFi => ?_⟩
        by_cases hin : i = n
        · subst hin; exact ⟨fun z => absurd z (Nat.lt_irrefl _), l64_ir⟩
        · exact absurd hFi (hn i (by omega))
      · have e : gvn P no o ks (n + 1) = none := (gv_nf hg.symm hf).symm
        rw [e]
        refine ⟨fun _ i hi => ?_, fun b hb => by cases hb⟩
        by_cases hin : i = n
        · subst hin; exact hf
        · exact hn i (by omega)
    · obtain ⟨g1, g2, g3, g4⟩ := ih.2 b0 hg
      by_cases hd : pDu (P n) < pDu (P b0)
      · by_cases hf : frP (P n) no o ks = true
        · have e : gvn P no o ks (n + 1) = some n := (gv_st hg.symm hd hf).symm
          rw [e]
          refine ⟨fun z => (by cases z), fun b hb => ?_⟩
          cases hb
          refine ⟨Nat.zero_le _, Nat.lt_succ_self n, hf, fun i _ hi hFi => ?_⟩
          by_cases hin : i = n
          · subst hin; exact ⟨fun z => absurd z (Nat.lt_irrefl _), l64_ir⟩
          · have h5 : pDu (P n) < pDu (P i) := by
              have h6 : ¬ pDu (P i) < pDu (P b0) := (g4 i (Nat.zero_le _) (by omega) hFi).2
              rw [Int64.lt_iff_toInt_lt] at *; omega
            exact ⟨fun _ => h5, l64_as h5⟩
        · have e : gvn P no o ks (n + 1) = some b0 := (gv_sf hg.symm hf).symm
          rw [e]
          refine ⟨fun z => (by cases z), fun b hb => ?_⟩
          cases hb
          refine ⟨g1, by omega, g3, fun i hlo hi hFi => ?_⟩
          by_cases hin : i = n
          · subst hin; exact absurd hFi hf
          · exact g4 i hlo (by omega) hFi
      · have e : gvn P no o ks (n + 1) = some b0 := (gv_sd hg.symm hd).symm
        rw [e]
        refine ⟨fun z => (by cases z), fun b hb => ?_⟩
        cases hb
        refine ⟨g1, by omega, g3, fun i hlo hi hFi => ?_⟩
        by_cases hin : i = n
        · subst hin; exact ⟨fun z => absurd z (by omega), hd⟩
        · exact g4 i hlo (by omega) hFi
theorem mbs_spec {du : Nat → Int64} {F : Nat → Bool} {n : Nat} : ∀ d : Nat, d ≤ n → (mbs du F n d = 0 → ∀ i : Nat, n - d ≤ i → i < n → ¬ F i = true) ∧ (∀ b : Nat, mbs du F n d = b + 1 → isB F (fun i => du (i + 1)) (n - d) n b) := by
  intro d
  induction d with
  | zero => intro _; exact ⟨fun _ i h1 h2 => by omega, fun b h => by cases h⟩
  | succ d ih =>
    intro hd
    have ih := ih (by omega)
    have e1 : n - d - 1 + 1 = n - d := by omega
    by_cases hc : F (n - d - 1) = true ∧ (mbs du F n d = 0 ∨ ¬ du (mbs du F n d) < du (n - d))
    · have e : mbs du F n (d + 1) = n - d := if_pos hc
      rw [e]
      refine ⟨fun z => by omega, fun b hb => ?_⟩
      have hb' : b = n - d - 1 := by omega
      subst hb'
      refine ⟨by omega, by omega, hc.1, fun i hlo hi hFi => ?_⟩
      by_cases hin : i = n - d - 1
      · subst hin; exact ⟨fun z => absurd z (Nat.lt_irrefl _), l64_ir⟩
      · refine ⟨fun z => by omega, ?_⟩
        show ¬ du (i + 1) < du (n - d - 1 + 1)
        rw [e1]
        rcases hc.2 with h0 | h0
        · exact absurd hFi (ih.1 h0 i (by omega) hi)
        · obtain ⟨b0, hb0⟩ : ∃ b0, mbs du F n d = b0 + 1 := ⟨mbs du F n d - 1, by
            have : mbs du F n d ≠ 0 := fun z => by exact absurd hFi (ih.1 z i (by omega) hi)
            omega⟩
          have h6 := ((ih.2 b0 hb0).2.2.2 i (by omega) hi hFi).2
          rw [hb0] at h0
          exact l64_nn h6 h0
    · have e : mbs du F n (d + 1) = mbs du F n d := if_neg hc
      rw [e]
      refine ⟨fun z i h1 h2 => ?_, fun b hb => ?_⟩
      · by_cases hin : i = n - d - 1
        · subst hin
          exact fun hf => hc ⟨hf, Or.inl z⟩
        · exact ih.1 z i (by omega) h2
      · obtain ⟨g1, g2, g3, g4⟩ := ih.2 b hb
        refine ⟨by omega, g2, g3, fun i hlo hi hFi => ?_⟩
        by_cases hin : i = n - d - 1
        · subst hin
          have h7 : du (b + 1) < du (n - d) := by
            by_cases z : du (b + 1) < du (n - d)
            · exact z
            · exact absurd ⟨hFi, Or.inr (by rw [hb]; exact z)⟩ hc
          show (_ → du (b + 1) < du (n - d - 1 + 1)) ∧ ¬ du (n - d - 1 + 1) < du (b + 1)
          rw [e1]
          exact ⟨fun _ => h7, l64_as h7⟩
        · exact g4 i (by omega) hi hFi
/-- both find the same one -/
theorem best_same {P : Nat → PT} {no o ks : Int32} {du : Nat → Int64} {F : Nat → Bool} {n : Nat} (hF : ∀ i : Nat, i < n → (frP (P i) no o ks = true ↔ F i = true)) (hd : ∀ i : Nat, i < n → pDu (P i) = du (i + 1)) : (gvn P no o ks n = none ∧ mbs du F n n = 0) ∨ ∃ b : Nat, b < n ∧ gvn P no o ks n = some b ∧ mbs du F n n = b + 1 := by
  have hs := gvn_spec (P := P) (no := no) (o := o) (ks := ks) n
  have hm := mbs_spec (du := du) (F := F) (n := n) n (Nat.le_refl n)
  rw [Nat.sub_self] at hm
  rcases hg : gvn P no o ks n with _ | b
  · refine Or.inl ⟨rfl, ?_⟩
    by_cases hz : mbs du F n n = 0
    · exact hz
    · obtain ⟨b0, hb0⟩ : ∃ b0, mbs du F n n = b0 + 1 := ⟨mbs du F n n - 1, by omega⟩
      obtain ⟨-, g2, g3, -⟩ := hm.2 b0 hb0
      exact absurd ((hF b0 g2).mpr g3) (hs.1 hg b0 g2)
  · obtain ⟨g1, g2, g3, g4⟩ := hs.2 b hg
    refine Or.inr ⟨b, g2, rfl, ?_⟩
    by_cases hz : mbs du F n n = 0
    · exact absurd ((hF b g2).mp g3) (hm.1 hz b (Nat.zero_le _) g2)
    · obtain ⟨b0, hb0⟩ : ∃ b0, mbs du F n n = b0 + 1 := ⟨mbs du F n n - 1, by omega⟩
      have h1 : isB F (fun i => du (i + 1)) 0 n b := ⟨g1, g2, (hF b g2).mp g3, fun i hlo hi hFi => by
        have := g4 i hlo hi ((hF i hi).mpr hFi)
        show (_ → du (b + 1) < du (i + 1)) ∧ ¬ du (i + 1) < du (b + 1)
        rw [← hd i hi, ← hd b g2]
        exact this⟩
      rw [hb0, isB_eq (hm.2 b0 hb0) h1]
theorem hd_none {d : Nat → Int32} {j : Nat} : ∀ n : Nat, (∀ i : Nat, i < n → ¬ d (20 * i + j) = 2) → hd d j n = 0 := by
  intro n
  induction n with
  | zero => intro _; rfl
  | succ n ih =>
    intro h
    simp only [hd]
    rw [if_neg (h n (Nat.lt_succ_self n))]
    exact ih (fun i hi => h i (by omega))
theorem hd_some {d : Nat → Int32} {j i : Nat} : ∀ n : Nat, i < n → (∀ i' : Nat, i' < n → (d (20 * i' + j) = 2 ↔ i' = i)) → hd d j n = i + 1 := by
  intro n
  induction n with
  | zero => intro h; omega
  | succ n ih =>
    intro hi h
    simp only [hd]
    by_cases hn : n = i
    · subst hn
      rw [if_pos ((h n hi).mpr rfl)]
    · rw [if_neg (fun z => hn ((h n (Nat.lt_succ_self n)).mp z))]
      exact ih (by omega) (fun i' hi' => h i' (by omega))
end
section
/-! the two sides' states side by side -/
def kR (x : PT) (g : Nat → Nat → Int32) (i k : Nat) : Prop := k ≤ 2 ∧ pAn x = nI k ∧ g 4 (i + 1) = nI k ∧ pWa x = (if k = 2 then 3 else 2) ∧ cA (pL x) = k ∧ (∀ v : Int32, ¬ v < 0 → hasE v (pL x) = bl (g 5) i v k) ∧ (k = 2 → ¬ g 5 (3 * (i + 1)) = g 5 (3 * (i + 1) + 1))
def pR (x : PT) (du : Nat → Int64) (g : Nat → Nat → Int32) (i : Nat) : Prop := pDu x = du (i + 1) ∧ pSk x = g 1 (i + 1) ∧ pEn x = g 2 (i + 1) ∧ pSw x = g 3 (i + 1) ∧ lR g i (pL x) ∧ (pEn x = 0 → pSw x = 0 ∧ ∃ k : Nat, kR x g i k)
def hR (n : Nat) (P : Nat → PT) (tu : Option Nat) (g : Nat → Nat → Int32) (j : Nat) : Prop := (tu = none ∧ ∀ i : Nat, i < n → ¬ g 6 (20 * i + j) = 2) ∨ ∃ (i q : Nat) (o : Int32), i < n ∧ tu = some q ∧ (q, nI j, o, -1) ∈ pL (P i) ∧ ∀ i' : Nat, i' < n → (g 6 (20 * i' + j) = 2 ↔ i' = i)
def sR (mo : Int32) (n : Nat) (P : Nat → PT) (K : Nat → KT) (du : Nat → Int64) (g : Nat → Nat → Int32) : Prop :=
  (∀ i : Nat, i < n → pR (P i) du g i) ∧ (∀ j : Nat, j < 20 → kIn (K j) = g 9 j ∧ kOf (K j) = g 10 j ∧ kSk (K j) = g 11 j ∧ (g 9 j = 0 ∨ g 9 j = 1)) ∧ (∀ j : Nat, j < 20 → hR n P (kTu (K j)) g j) ∧ (∀ p : Nat, n < p → p ≤ 300 → g 2 p = 0 ∧ g 3 p = 0 ∧ g 4 p = 0) ∧ (∀ i : Nat, n ≤ i → i < 300 → ∀ j : Nat, j < 20 → g 6 (20 * i + j) = 0 ∧ g 8 (20 * i + j) = -1) ∧ ∃ M : Nat, 1 ≤ M ∧ M ≤ 100 ∧ mo = nI M ∧ cW P n ≤ M
theorem k2_cases {k : Nat} (h : k ≤ 2) : k = 0 ∨ k = 1 ∨ k = 2 := by omega
section SIM
variable {x : PT} {du : Nat → Int64} {g : Nat → Nat → Int32} {i k : Nat}
theorem kR_dff (h : kR x g i k) : dff (g 4) (g 5) i ↔ k = 2 := by
  obtain ⟨h1, -, h3, -, -, -, h7⟩ := h
  constructor
  · rintro ⟨z, -⟩
    rw [h3] at z
    rcases k2_cases h1 with rfl | rfl | rfl
    · exact absurd (by decide) z
    · exact absurd (by decide) z
    · rfl
  · rintro rfl
    exact ⟨by rw [h3]; decide, h7 rfl⟩
theorem kR_wa (h : kR x g i k) : pWa x = (if dff (g 4) (g 5) i then 3 else 2) := by
  rw [h.2.2.2.1]
  by_cases hk : k = 2
  · rw [if_pos hk, if_pos ((kR_dff h).mpr hk)]
  · rw [if_neg hk, if_neg (fun z => hk ((kR_dff h).mp z))]
theorem kR_tk (h : kR x g i k) (hl : lR g i (pL x)) : nI (tk (pL x)) = g 4 (i + 1) + nI (hc (g 6) i 20) := by
  rw [lR_tk hl, h.2.2.2.2.1, h.2.2.1, nI_add]
theorem kR_tkn (h : kR x g i k) (hl : lR g i (pL x)) : nI (tk (pL x)) < pWa x ↔ ¬ tkn (g 4) (g 5) (g 6) i := by
  rw [kR_tk h hl, kR_wa h]
  exact Decidable.not_not.symm
theorem pR_state (h : pR x du g i) : stt (pEn x) (pWa x) (tk (pL x)) = mst g i := by
  obtain ⟨-, -, h3, -, hl, hk⟩ := h
  unfold stt mst
  by_cases he : pEn x = 0
  · obtain ⟨-, k, hk⟩ := hk he
    rw [if_pos he, if_pos (h3.symm.trans he)]
    by_cases ht : tkn (g 4) (g 5) (g 6) i
    · rw [if_neg (fun z => (kR_tkn hk hl).mp z ht), if_pos ht]
    · rw [if_pos ((kR_tkn hk hl).mpr ht), if_neg ht]
  · rw [if_neg he, if_neg (fun z => he (h3.trans z)), h3]
theorem pR_free (h : pR x du g i) {j : Nat} (hj : j < 20) : frP x (nI j) (g 10 j) (g 11 j) = true ↔ mfr g i j := by
  obtain ⟨-, h2, h3, -, hl, hk⟩ := h
  unfold frP fre
  by_cases he : pEn x = 0
  · obtain ⟨-, k, hk⟩ := hk he
    have hb := lR_bar hl hj (o := g 10 j) (wa := pWa x)
    have hd : ¬ pWa x = 2 ↔ dff (g 4) (g 5) i := by
      rw [kR_wa hk]
      by_cases hd : dff (g 4) (g 5) i
      · rw [if_pos hd]; exact ⟨fun _ => hd, fun _ => by decide⟩
      · rw [if_neg hd]; exact ⟨fun z => absurd rfl z, fun z => absurd z hd⟩
    rw [hd] at hb
    simp only [Bool.and_eq_true, decide_eq_true_eq, Bool.not_eq_true', decide_eq_false_iff_not]
    rw [kR_tkn hk hl, h2, ← Bool.not_eq_true, hb]
    constructor
    · rintro ⟨⟨⟨a, b⟩, c⟩, d, e⟩
      exact ⟨⟨⟨⟨h3.symm.trans a, c⟩, b⟩, d⟩, e⟩
    · rintro ⟨⟨⟨⟨a, c⟩, b⟩, d⟩, e⟩
      exact ⟨⟨⟨h3.trans a, b⟩, c⟩, d, e⟩
  · constructor
    · intro z
      simp [he] at z
    · rintro ⟨⟨⟨⟨a, -⟩, -⟩, -⟩, -⟩
      exact absurd (h3.trans a) he
end SIM
theorem cW_oW {P : Nat → PT} {du : Nat → Int64} {g : Nat → Nat → Int32} : ∀ m : Nat, (∀ i : Nat, i < m → pR (P i) du g i) → cW P m = oW (g 2) m := by
  intro m
  induction m with
  | zero => intro _; rfl
  | succ m ih =>
    intro h
    simp only [cW, oW]
    rw [ih (fun i hi => h i (by omega)), (h m (Nat.lt_succ_self m)).2.2.1]
theorem cL_mC {t : Int64} {P : Nat → PT} {du : Nat → Int64} {g : Nat → Nat → Int32} : ∀ m : Nat, (∀ i : Nat, i < m → pR (P i) du g i) → cL t P m = mC t du (g 2) m := by
  intro m
  induction m with
  | zero => intro _; rfl
  | succ m ih =>
    intro h
    simp only [cL, mC]
    rw [ih (fun i hi => h i (by omega)), (h m (Nat.lt_succ_self m)).2.2.1, (h m (Nat.lt_succ_self m)).1]
theorem cW_mono {P P' : Nat → PT} : ∀ m : Nat, (∀ i : Nat, i < m → pEn (P' i) = 0 → pEn (P i) = 0) → cW P' m ≤ cW P m := by
  intro m
  induction m with
  | zero => intro _; exact Nat.le_refl _
  | succ m ih =>
    intro h
    have h1 := ih (fun i hi => h i (by omega))
    simp only [cW]
    by_cases hz : pEn (P' m) = 0
    · rw [if_pos hz, if_pos (h m (Nat.lt_succ_self m) hz)]
      omega
    · rw [if_neg hz]
      split <;> omega
/-- the tables are alike at picture i -/
theorem tR_congr {g g' : Nat → Nat → Int32} {i j : Nat} {t : TR} (h : g' 6 (20 * i + j) = g 6 (20 * i + j) ∧ g' 7 (20 * i + j) = g 7 (20 * i + j) ∧ g' 8 (20 * i + j) = g 8 (20 * i + j)) (ht : tR g i j t) : tR g' i j t := by
  unfold tR at *
  rw [h.1, h.2.1, h.2.2]
  exact ht
theorem lR_congr {g g' : Nat → Nat → Int32} {i : Nat} {L : List TR} (h : ∀ j : Nat, j < 20 → g' 6 (20 * i + j) = g 6 (20 * i + j) ∧ g' 7 (20 * i + j) = g 7 (20 * i + j) ∧ g' 8 (20 * i + j) = g 8 (20 * i + j)) (hl : lR g i L) : lR g' i L := by
  refine ⟨hl.1, fun t ht => ?_, fun j hj hn => ?_⟩
  · obtain ⟨j, hj, hc, ht'⟩ := hl.2.1 t ht
    exact ⟨j, hj, hc, tR_congr (h j hj) ht'⟩
  · rw [(h j hj).1, (h j hj).2.2]
    exact hl.2.2 j hj hn
theorem kR_congr {x x' : PT} {g g' : Nat → Nat → Int32} {i k : Nat} (h4 : g' 4 (i + 1) = g 4 (i + 1)) (h5 : ∀ m : Nat, m < 3 → g' 5 (3 * (i + 1) + m) = g 5 (3 * (i + 1) + m)) (e1 : pAn x' = pAn x) (e2 : pWa x' = pWa x) (e3 : cA (pL x') = cA (pL x)) (e4 : ∀ v : Int32, ¬ v < 0 → hasE v (pL x') = hasE v (pL x)) (h : kR x g i k) : kR x' g' i k := by
  obtain ⟨g1, g2, g3, g4', g5', g6, g7⟩ := h
  refine ⟨g1, e1.trans g2, h4.trans g3, e2.trans g4', e3.trans g5', fun v hv => ?_, fun hk => ?_⟩
  · rw [e4 v hv, g6 v hv]
    have : ∀ m : Nat, m ≤ 2 → bl (g 5) i v m = bl (g' 5) i v m := by
      intro m
      induction m with
      | zero => intro _; rfl
      | succ m ih => intro hm; simp only [bl]; rw [ih (by omega), h5 m (by omega)]
    exact this k g1
  · have a := h5 0 (by omega)
    have b := h5 1 (by omega)
    rw [Nat.add_zero] at a
    rw [a, b]
    exact g7 hk
theorem pR_congr {x : PT} {du du' : Nat → Int64} {g g' : Nat → Nat → Int32} {i : Nat} (hd : du' (i + 1) = du (i + 1)) (hk : ∀ k : Nat, 1 ≤ k → k ≤ 4 → g' k (i + 1) = g k (i + 1)) (h5 : ∀ m : Nat, m < 3 → g' 5 (3 * (i + 1) + m) = g 5 (3 * (i + 1) + m)) (hl : ∀ j : Nat, j < 20 → g' 6 (20 * i + j) = g 6 (20 * i + j) ∧ g' 7 (20 * i + j) = g 7 (20 * i + j) ∧ g' 8 (20 * i + j) = g 8 (20 * i + j)) (h : pR x du g i) : pR x du' g' i := by
  obtain ⟨a1, a2, a3, a4, a5, a6⟩ := h
  refine ⟨a1.trans hd.symm, a2.trans (hk 1 (by omega) (by omega)).symm, a3.trans (hk 2 (by omega) (by omega)).symm, a4.trans (hk 3 (by omega) (by omega)).symm, lR_congr hl a5, fun z => ?_⟩
  obtain ⟨b1, k, b2⟩ := a6 z
  exact ⟨b1, k, kR_congr (hk 4 (by omega) (by omega)) h5 rfl rfl rfl (fun _ _ => rfl) b2⟩
/-- time passes on both sides -/
theorem sR_pass {mo : Int32} {n : Nat} {P : Nat → PT} {K : Nat → KT} {du : Nat → Int64} {g : Nat → Nat → Int32} (t : Int64) (h : sR mo n P K du g) : sR mo n (pst t P n) K du (pG g t du n) := by
  obtain ⟨h1, h2, h3, h4, h5, M, h6, h7, h8, h9⟩ := h
  have e : ∀ k : Nat, k ≠ 2 → pG g t du n k = g k := fun k hk => vu_ne hk
  have e2 : pG g t du n 2 = mE t du (g 2) n := vu_same
  have hpl : ∀ i : Nat, pL (pst t P n i) = pL (P i) := fun i => by
    unfold pst
    split <;> rfl
  refine ⟨fun i hi => ?_, fun j hj => ?_, fun j hj => ?_, fun p hp1 hp2 => ?_, fun i hi1 hi2 j hj => ?_, M, h6, h7, h8, Nat.le_trans (cW_mono n (fun i hi z => ?_)) h9⟩
  · obtain ⟨a1, a2, a3, a4, a5, a6⟩ := h1 i hi
    by_cases hc : pEn (P i) = 0 ∧ pDu (P i) < t
    · have ep : pst t P n i = sLate (P i) := if_pos ⟨hi, hc⟩
      have eg : pG g t du n 2 (i + 1) = 4 := by
        rw [e2]
        exact if_pos ⟨⟨by omega, by omega⟩, by rw [← a3, ← a1]; exact hc⟩
      rw [ep]
      refine ⟨a1, by rw [e 1 (by decide)]; exact a2, by rw [eg]; rfl, by rw [e 3 (by decide)]; exact a4, lR_congr (fun j hj => ?_) a5, fun z => ?_⟩
      · rw [e 6 (by decide), e 7 (by decide), e 8 (by decide)]
        exact ⟨rfl, rfl, rfl⟩
      · exact absurd z (by show ¬ (4 : Int32) = 0; decide)
    · have ep : pst t P n i = P i := if_neg (fun z => hc z.2)
      have eg : pG g t du n 2 (i + 1) = g 2 (i + 1) := by
        rw [e2]
        exact if_neg (fun z => hc (by rw [a3, a1]; exact z.2))
      rw [ep]
      refine pR_congr rfl (fun k hk1 hk2 => ?_) (fun m hm => by rw [e 5 (by decide)]) (fun j hj => by rw [e 6 (by decide), e 7 (by decide), e 8 (by decide)]; exact ⟨rfl, rfl, rfl⟩) (h1 i hi)
      by_cases hk : k = 2
      · subst hk; exact eg
      · rw [e k hk]
  · rw [e 9 (by decide), e 10 (by decide), e 11 (by decide)]
    exact h2 j hj
  · rcases h3 j hj with ⟨b1, b2⟩ | ⟨i, q, o, b1, b2, b3, b4⟩
    · exact Or.inl ⟨b1, fun i hi => by rw [e 6 (by decide)]; exact b2 i hi⟩
    · exact Or.inr ⟨i, q, o, b1, b2, by rw [hpl]; exact b3, fun i' hi' => by rw [e 6 (by decide)]; exact b4 i' hi'⟩
  · rw [e2, e 3 (by decide), e 4 (by decide), mE_gt hp1]
    exact h4 p hp1 hp2
  · rw [e 6 (by decide), e 8 (by decide)]
    exact h5 i hi1 hi2 j hj
  · unfold pst at z
    by_cases hc : i < n ∧ (pEn (P i) = 0 ∧ pDu (P i) < t)
    · exact hc.2.1
    · rw [if_neg hc] at z
      exact z
end
section
/-! calls on both sides: the states stay side by side -/
theorem pw_eq {L : List TR} (hp : L.Pairwise (fun s t => s.2.1 ≠ t.2.1)) : ∀ {s t : TR}, s ∈ L → t ∈ L → s.2.1 = t.2.1 → s = t := by
  induction L with
  | nil => intro s t hs; cases hs
  | cons a L ih =>
    intro s t hs ht e
    rw [List.pairwise_cons] at hp
    rcases List.mem_cons.mp hs with hs1 | hs1
    · rcases List.mem_cons.mp ht with ht1 | ht1
      · rw [hs1, ht1]
      · rw [hs1] at e
        exact absurd e (hp.1 t ht1)
    · rcases List.mem_cons.mp ht with ht1 | ht1
      · rw [ht1] at e
        exact absurd e.symm (hp.1 s hs1)
      · exact ih hp.2 hs1 ht1 e
theorem sE_mem {q : Nat} {x : Int32} {L : List TR} {s' : TR} : s' ∈ sE q x L ↔ ∃ s ∈ L, (if s.1 = q then (s.1, s.2.1, s.2.2.1, x) else s) = s' := List.mem_map
theorem sE_ck {q : Nat} {x : Int32} {s : TR} : (if s.1 = q then (s.1, s.2.1, s.2.2.1, x) else s : TR).2.1 = s.2.1 := by
  split <;> rfl
theorem sE_id {q : Nat} {x : Int32} : ∀ (L : List TR), (∀ s ∈ L, s.1 ≠ q) → sE q x L = L := by
  intro L
  induction L with
  | nil => intro _; rfl
  | cons s L ih =>
    intro h
    show (if s.1 = q then (s.1, s.2.1, s.2.2.1, x) else s) :: sE q x L = s :: L
    rw [if_neg (h s List.mem_cons_self), ih (fun r hr => h r (List.mem_cons_of_mem _ hr))]
theorem sE_cnt {q j : Nat} {o x : Int32} : ∀ (L : List TR), L.Pairwise (fun s t => s.2.1 ≠ t.2.1) → (q, nI j, o, -1) ∈ L → (∀ s ∈ L, s.1 = q → s.2.1 = nI j) → cA (sE q x L) = cA L + (if x < 0 then 0 else 1) ∧ ∀ v : Int32, ¬ v < 0 → hasE v (sE q x L) = (decide (x = v) || hasE v L) := by
  intro L
  induction L with
  | nil => intro _ h; cases h
  | cons s L ih =>
    intro hp hm hq
    have hp' := List.pairwise_cons.mp hp
    by_cases hs : s.1 = q
    · have hck : s.2.1 = nI j := hq s List.mem_cons_self hs
      have hs0 : s = (q, nI j, o, -1) := pw_eq hp List.mem_cons_self hm hck
      have hid : sE q x L = L := sE_id L (fun r hr z => hp'.1 r hr (hck.trans (hq r (List.mem_cons_of_mem _ hr) z).symm))
      have e : sE q x (s :: L) = (s.1, s.2.1, s.2.2.1, x) :: L := by
        show (if s.1 = q then (s.1, s.2.1, s.2.2.1, x) else s) :: sE q x L = _
        rw [if_pos hs, hid]
      rw [e]
      have hse : s.2.2.2 = -1 := by rw [hs0]
      refine ⟨?_, fun v hv => ?_⟩
      · show (if x < 0 then cA L else cA L + 1) = (if s.2.2.2 < 0 then cA L else cA L + 1) + _
        have h0 : s.2.2.2 < 0 := by rw [hse]; decide
        rw [if_pos h0]
        by_cases hx : x < 0
        · rw [if_pos hx, if_pos hx]; rfl
        · rw [if_neg hx, if_neg hx]
      · show (decide (x = v) || hasE v L) = (decide (x = v) || (decide (s.2.2.2 = v) || hasE v L))
        rw [hse, show decide ((-1 : Int32) = v) = false from decide_eq_false (fun z => hv (by rw [← z]; decide))]
        rfl
    · have hm' : (q, nI j, o, -1) ∈ L := by
        rcases List.mem_cons.mp hm with z | z
        · exact absurd (by rw [← z]) hs
        · exact z
      obtain ⟨i1, i2⟩ := ih hp'.2 hm' (fun r hr => hq r (List.mem_cons_of_mem _ hr))
      have e : sE q x (s :: L) = s :: sE q x L := by
        show (if s.1 = q then (s.1, s.2.1, s.2.2.1, x) else s) :: sE q x L = _
        rw [if_neg hs]
      rw [e]
      refine ⟨?_, fun v hv => ?_⟩
      · show (if s.2.2.2 < 0 then cA (sE q x L) else cA (sE q x L) + 1) = (if s.2.2.2 < 0 then cA L else cA L + 1) + _
        rw [i1]
        by_cases h0 : s.2.2.2 < 0
        · rw [if_pos h0, if_pos h0]
        · rw [if_neg h0, if_neg h0]; omega
      · show (decide (s.2.2.2 = v) || hasE v (sE q x L)) = (decide (x = v) || (decide (s.2.2.2 = v) || hasE v L))
        rw [i2 v hv]
        cases decide (s.2.2.2 = v) <;> cases decide (x = v) <;> simp
theorem lR_sE {g g' : Nat → Nat → Int32} {i j q : Nat} {o e0 x : Int32} {L : List TR} (h : lR g i L) (hm : (q, nI j, o, e0) ∈ L) (hq : ∀ s ∈ L, s.1 = q → s.2.1 = nI j) (hg : ∀ j' : Nat, j' < 20 → j' ≠ j → g' 6 (20 * i + j') = g 6 (20 * i + j') ∧ g' 7 (20 * i + j') = g 7 (20 * i + j') ∧ g' 8 (20 * i + j') = g 8 (20 * i + j')) (hj : j < 20) (ht : tR g' i j (q, nI j, o, x)) : lR g' i (sE q x L) := by
  refine ⟨?_, fun s' hs' => ?_, fun j' hj' hn => ?_⟩
  · unfold sE
    rw [List.pairwise_map]
    exact h.1.imp (fun {a b} hab => by rw [sE_ck, sE_ck]; exact hab)
  · obtain ⟨s, hs, rfl⟩ := sE_mem.mp hs'
    by_cases hsq : s.1 = q
    · have hs0 : s = (q, nI j, o, e0) := pw_eq h.1 hs hm (hq s hs hsq)
      rw [if_pos hsq]
      refine ⟨j, hj, hq s hs hsq, ?_⟩
      rw [hs0]
      exact ht
    · rw [if_neg hsq]
      obtain ⟨j', hj', hc, hts⟩ := h.2.1 s hs
      have hne : j' ≠ j := fun z => by
        subst z
        have hs0 : s = (q, nI j', o, e0) := pw_eq h.1 hs hm hc
        exact hsq (by rw [hs0])
      exact ⟨j', hj', hc, tR_congr (hg j' hj' hne) hts⟩
  · have hn' : ∀ s ∈ L, s.2.1 ≠ nI j' := fun s hs z => hn _ (sE_mem.mpr ⟨s, hs, rfl⟩) (by rw [sE_ck]; exact z)
    have hne : j' ≠ j := fun z => hn' _ hm (by rw [z])
    rw [(hg j' hj' hne).1, (hg j' hj' hne).2.2]
    exact h.2.2 j' hj' hn'
/-- the tables of the clerks alone -/
theorem sR_K {mo : Int32} {n : Nat} {P : Nat → PT} {K K' : Nat → KT} {du : Nat → Int64} {g g' : Nat → Nat → Int32} (h : sR mo n P K du g) (hg : ∀ k : Nat, k ≤ 8 → g' k = g k) (hk : ∀ j : Nat, j < 20 → kIn (K' j) = g' 9 j ∧ kOf (K' j) = g' 10 j ∧ kSk (K' j) = g' 11 j ∧ (g' 9 j = 0 ∨ g' 9 j = 1)) (ht : ∀ j : Nat, j < 20 → kTu (K' j) = kTu (K j)) : sR mo n P K' du g' := by
  obtain ⟨h1, h2, h3, h4, h5, h6⟩ := h
  refine ⟨fun i hi => pR_congr rfl (fun k _ hk2 => by rw [hg k (by omega)]) (fun m _ => by rw [hg 5 (by omega)]) (fun j _ => by rw [hg 6 (by omega), hg 7 (by omega), hg 8 (by omega)]; exact ⟨rfl, rfl, rfl⟩) (h1 i hi), hk, fun j hj => ?_, fun p hp1 hp2 => by rw [hg 2 (by omega), hg 3 (by omega), hg 4 (by omega)]; exact h4 p hp1 hp2, fun i hi1 hi2 j hj => by rw [hg 6 (by omega), hg 8 (by omega)]; exact h5 i hi1 hi2 j hj, h6⟩
  rw [ht j hj]
  unfold hR
  rw [hg 6 (by omega)]
  exact h3 j hj
/-- one picture and one clerk -/
theorem sR_one {mo : Int32} {n : Nat} {P : Nat → PT} {K K' : Nat → KT} {du : Nat → Int64} {g g' : Nat → Nat → Int32} {i0 j0 : Nat} {x' : PT} (h : sR mo n P K du g) (hi0 : i0 < n)
    (Ha : ∀ i : Nat, i ≠ i0 → ∀ j : Nat, j < 20 → g' 6 (20 * i + j) = g 6 (20 * i + j) ∧ g' 7 (20 * i + j) = g 7 (20 * i + j) ∧ g' 8 (20 * i + j) = g 8 (20 * i + j))
    (Hb : ∀ j : Nat, j < 20 → j ≠ j0 → g' 6 (20 * i0 + j) = g 6 (20 * i0 + j))
    (Hc : ∀ i : Nat, i ≠ i0 → ∀ k : Nat, 1 ≤ k → k ≤ 4 → g' k (i + 1) = g k (i + 1))
    (Hc5 : ∀ i : Nat, i ≠ i0 → ∀ m : Nat, m < 3 → g' 5 (3 * (i + 1) + m) = g 5 (3 * (i + 1) + m))
    (Hd : ∀ j : Nat, j < 20 → kIn (K' j) = g' 9 j ∧ kOf (K' j) = g' 10 j ∧ kSk (K' j) = g' 11 j ∧ (g' 9 j = 0 ∨ g' 9 j = 1))
    (He : pR x' du g' i0)
    (Hf : ∀ j : Nat, j < 20 → j ≠ j0 → ∀ (q : Nat) (o : Int32), (q, nI j, o, -1) ∈ pL (P i0) → (q, nI j, o, -1) ∈ pL x')
    (Hg : pEn x' = 0 → pEn (P i0) = 0)
    (Hh : hR n (va_up P i0 x') (kTu (K' j0)) g' j0)
    (Hi : ∀ j : Nat, j < 20 → j ≠ j0 → kTu (K' j) = kTu (K j)) : sR mo n (va_up P i0 x') K' du g' := by
  obtain ⟨h1, h2, h3, h4, h5, M, h6, h7, h8, h9⟩ := h
  refine ⟨fun i hi => ?_, Hd, fun j hj => ?_, fun p hp1 hp2 => ?_, fun i hi1 hi2 j hj => ?_, M, h6, h7, h8, Nat.le_trans (cW_mono n (fun i hi z => ?_)) h9⟩
  · by_cases hii : i = i0
    · subst hii; rw [vp_us]; exact He
    · rw [vp_un hii]
      exact pR_congr rfl (Hc i hii) (Hc5 i hii) (Ha i hii) (h1 i hi)
  · by_cases hjj : j = j0
    · subst hjj; exact Hh
    · have hg6 : ∀ i : Nat, g' 6 (20 * i + j) = g 6 (20 * i + j) := fun i => by
        by_cases hii : i = i0
        · subst hii; exact Hb j hj hjj
        · exact (Ha i hii j hj).1
      rw [Hi j hj hjj]
      rcases h3 j hj with ⟨b1, b2⟩ | ⟨i, q, o, b1, b2, b3, b4⟩
      · exact Or.inl ⟨b1, fun i hi => by rw [hg6]; exact b2 i hi⟩
      · refine Or.inr ⟨i, q, o, b1, b2, ?_, fun i' hi' => by rw [hg6]; exact b4 i' hi'⟩
        by_cases hii : i = i0
        · subst hii; rw [vp_us]; exact Hf j hj hjj q o b3
        · rw [vp_un hii]; exact b3
  · obtain ⟨i, rfl⟩ : ∃ i, p = i + 1 := ⟨p - 1, by omega⟩
    rw [Hc i (by omega) 2 (by omega) (by omega), Hc i (by omega) 3 (by omega) (by omega), Hc i (by omega) 4 (by omega) (by omega)]
    exact h4 (i + 1) hp1 hp2
  · rw [(Ha i (by omega) j hj).1, (Ha i (by omega) j hj).2.2]
    exact h5 i hi1 hi2 j hj
  · by_cases hii : i = i0
    · subst hii; rw [vp_us] at z; exact Hg z
    · rw [vp_un hii] at z; exact z
theorem ix_ne {i i' j j' : Nat} (hj : j < 20) (hj' : j' < 20) (h : i ≠ i' ∨ j ≠ j') : 20 * i + j ≠ 20 * i' + j' := by omega
section OPS
variable {mo : Int32} {n : Nat} {P : Nat → PT} {K : Nat → KT} {du : Nat → Int64} {g : Nat → Nat → Int32}
/-- office -/
theorem sR_office (h : sR mo n P K du g) {j : Nat} (hj : j < 20) (o sk : Int32) : sR mo n P (va_up K j (kAd (K j), 1, o, sk, kTu (K j))) du (va_up (va_up (va_up g 9 (upd (g 9) j 1)) 10 (upd ((va_up g 9 (upd (g 9) j 1)) 10) j o)) 11 (upd ((va_up (va_up g 9 (upd (g 9) j 1)) 10 (upd ((va_up g 9 (upd (g 9) j 1)) 10) j o)) 11) j sk)) := by
  refine sR_K h (fun k hk => ?_) (fun i hi => ?_) (fun i hi => ?_)
  · rw [vu_ne (by omega), vu_ne (by omega), vu_ne (by omega)]
  · rw [vu_same, vu_ne (show (10 : Nat) ≠ 11 by decide), vu_ne (show (9 : Nat) ≠ 11 by decide), vu_ne (show (9 : Nat) ≠ 10 by decide), vu_same, vu_same, vu_ne (show (11 : Nat) ≠ 10 by decide), vu_ne (show (11 : Nat) ≠ 9 by decide), vu_ne (show (10 : Nat) ≠ 9 by decide)]
    by_cases hij : i = j
    · subst hij
      rw [vp_us, pk_us, pk_us, pk_us]
      exact ⟨rfl, rfl, rfl, Or.inr rfl⟩
    · rw [vp_un hij, pk_un hij, pk_un hij, pk_un hij]
      exact h.2.1 i hi
  · by_cases hij : i = j
    · subst hij; rw [vp_us]; rfl
    · rw [vp_un hij]
/-- office, nothing new -/
theorem sR_office0 (h : sR mo n P K du g) {j : Nat} (hj : j < 20) {o sk : Int32} (h0 : ¬ kIn (K j) = 0) (h1 : kOf (K j) = o) (h2 : kSk (K j) = sk) : sR mo n P K du (va_up (va_up (va_up g 9 (upd (g 9) j 1)) 10 (upd ((va_up g 9 (upd (g 9) j 1)) 10) j o)) 11 (upd ((va_up (va_up g 9 (upd (g 9) j 1)) 10 (upd ((va_up g 9 (upd (g 9) j 1)) 10) j o)) 11) j sk)) := by
  refine sR_K h (fun k hk => ?_) (fun i hi => ?_) (fun i hi => rfl)
  · rw [vu_ne (by omega), vu_ne (by omega), vu_ne (by omega)]
  · rw [vu_same, vu_ne (show (10 : Nat) ≠ 11 by decide), vu_ne (show (9 : Nat) ≠ 11 by decide), vu_ne (show (9 : Nat) ≠ 10 by decide), vu_same, vu_same, vu_ne (show (11 : Nat) ≠ 10 by decide), vu_ne (show (11 : Nat) ≠ 9 by decide), vu_ne (show (10 : Nat) ≠ 9 by decide)]
    by_cases hij : i = j
    · subst hij
      rw [pk_us, pk_us, pk_us]
      have hh := h.2.1 i hi
      refine ⟨?_, h1, h2, Or.inr rfl⟩
      rcases hh.2.2.2 with z | z
      · exact absurd (hh.1.trans z) h0
      · exact hh.1.trans z
    · rw [pk_un hij, pk_un hij, pk_un hij]
      exact h.2.1 i hi
/-- leave, nothing held -/
theorem sR_leave0 (h : sR mo n P K du g) {j : Nat} (hj : j < 20) (ht : kTu (K j) = none) : sR mo n P (va_up K j (kAd (K j), 0, kOf (K j), kSk (K j), none)) du (va_up g 9 (upd (g 9) j 0)) := by
  refine sR_K h (fun k hk => ?_) (fun i hi => ?_) (fun i hi => ?_)
  · rw [vu_ne (by omega)]
  · rw [vu_same, vu_ne (show (10 : Nat) ≠ 9 by decide), vu_ne (show (11 : Nat) ≠ 9 by decide)]
    by_cases hij : i = j
    · subst hij
      rw [vp_us, pk_us]
      have hh := h.2.1 i hi
      exact ⟨rfl, hh.2.1, hh.2.2.1, Or.inl rfl⟩
    · rw [vp_un hij, pk_un hij]
      exact h.2.1 i hi
  · by_cases hij : i = j
    · subst hij; rw [vp_us]; exact ht.symm
    · rw [vp_un hij]
/-- give -/
theorem sR_give (h : sR mo n P K du g) {j b : Nat} (hj : j < 20) (hb : b < n) (hd : g 6 (20 * b + j) = 0) (ht : kTu (K j) = none) (q : Nat) : sR mo n (va_up P b (setL (P b) ((q, nI j, kOf (K j), -1) :: pL (P b)))) (va_up K j (kAd (K j), kIn (K j), kOf (K j), kSk (K j), some q)) du (gG g b j) := by
  have e : ∀ k : Nat, k ≠ 6 → k ≠ 7 → gG g b j k = g k := fun k h1 h2 => by unfold gG; rw [vu_ne h2, vu_ne h1]
  have e6 : gG g b j 6 = upd (g 6) (20 * b + j) 2 := by unfold gG; rw [vu_ne (show (6 : Nat) ≠ 7 by decide), vu_same]
  have e7 : gG g b j 7 = upd (g 7) (20 * b + j) (g 10 j) := by unfold gG; rw [vu_same, vu_ne (show (7 : Nat) ≠ 6 by decide), vu_ne (show (10 : Nat) ≠ 6 by decide)]
  obtain ⟨a1, a2, a3, a4, a5, a6⟩ := h.1 b hb
  have hcl := h.2.1 j hj
  have hno : ∀ s ∈ pL (P b), s.2.1 ≠ nI j := fun s hs z => by
    rcases (lR_at a5 hj hs z).2 with y | y | y <;> rw [hd] at y <;> exact absurd y.2.1 (by decide)
  refine sR_one h hb (j0 := j) (fun i hi j' hj' => ?_) (fun j' hj' hne => ?_) (fun i hi k hk1 hk2 => by rw [e k (by omega) (by omega)]) (fun i hi m hm => by rw [e 5 (by decide) (by decide)]) (fun i hi => ?_) ?_ (fun j' _ _ q' o hm => List.mem_cons_of_mem _ hm) (fun z => z) ?_ (fun j' _ hne => by rw [vp_un hne])
  · rw [e6, e7, e 8 (by decide) (by decide), pk_un (ix_ne hj' hj (Or.inl hi)), pk_un (ix_ne hj' hj (Or.inl hi))]
    exact ⟨rfl, rfl, rfl⟩
  · rw [e6, pk_un (ix_ne hj' hj (Or.inr hne))]
  · rw [e 9 (by decide) (by decide), e 10 (by decide) (by decide), e 11 (by decide) (by decide)]
    by_cases hij : i = j
    · subst hij; rw [vp_us]; exact hcl
    · rw [vp_un hij]; exact h.2.1 i hi
  · refine ⟨a1, by rw [e 1 (by decide) (by decide)]; exact a2, by rw [e 2 (by decide) (by decide)]; exact a3, by rw [e 3 (by decide) (by decide)]; exact a4, ⟨?_, fun s hs => ?_, fun j' hj' hn => ?_⟩, fun z => ?_⟩
    · exact List.pairwise_cons.mpr ⟨fun s hs z => hno s hs z.symm, a5.1⟩
    · rcases List.mem_cons.mp hs with rfl | hs
      · refine ⟨j, hj, rfl, ?_, Or.inl ⟨rfl, ?_, ?_⟩⟩
        · rw [e7, pk_us]; exact hcl.2.1.symm
        · rw [e6, pk_us]
        · rw [e 8 (by decide) (by decide)]; exact (a5.2.2 j hj hno).2
      · obtain ⟨j', hj', hc, hts⟩ := a5.2.1 s hs
        have hne : j' ≠ j := fun z => hno s hs (by rw [hc, z])
        refine ⟨j', hj', hc, tR_congr ?_ hts⟩
        rw [e6, e7, e 8 (by decide) (by decide), pk_un (ix_ne hj' hj (Or.inr hne)), pk_un (ix_ne hj' hj (Or.inr hne))]
        exact ⟨rfl, rfl, rfl⟩
    · have hne : j' ≠ j := fun z => hn _ List.mem_cons_self (by rw [z])
      rw [e6, e 8 (by decide) (by decide), pk_un (ix_ne hj' hj (Or.inr hne))]
      exact a5.2.2 j' hj' (fun s hs => hn s (List.mem_cons_of_mem _ hs))
    · obtain ⟨b1, k, b2⟩ := a6 z
      refine ⟨b1, k, kR_congr (x := P b) (by rw [e 4 (by decide) (by decide)]) (fun m _ => by rw [e 5 (by decide) (by decide)]) rfl rfl ?_ (fun v hv => ?_) b2⟩
      · show (if (-1 : Int32) < 0 then cA (pL (P b)) else cA (pL (P b)) + 1) = _
        rw [if_pos (by decide)]
      · show (decide ((-1 : Int32) = v) || hasE v (pL (P b))) = _
        rw [show decide ((-1 : Int32) = v) = false from decide_eq_false (fun z => hv (by rw [← z]; decide))]
        rfl
  · rw [vp_us]
    refine Or.inr ⟨b, q, kOf (K j), hb, rfl, by rw [vp_us]; exact List.mem_cons_self, fun i' hi' => ?_⟩
    rw [e6]
    by_cases hib : i' = b
    · subst hib; rw [pk_us]; exact ⟨fun _ => rfl, fun _ => rfl⟩
    · rw [pk_un (ix_ne hj hj (Or.inl hib))]
      refine ⟨fun z => ?_, fun z => absurd z hib⟩
      rcases h.2.2.1 j hj with ⟨-, y⟩ | ⟨i, q', o', -, y, -⟩
      · exact absurd z (y i' hi')
      · rw [ht] at y; cases y
/-- leave, with a picture -/
theorem sR_leave1 (h : sR mo n P K du g) {j i q : Nat} {o : Int32} (hj : j < 20) (hi : i < n) (hm : (q, nI j, o, -1) ∈ pL (P i)) (hu : ∀ i' : Nat, i' < n → (g 6 (20 * i' + j) = 2 ↔ i' = i)) (hq : ∀ s ∈ pL (P i), s.1 = q → s.2.1 = nI j) : sR mo n (va_up P i (setL (P i) (sE q (-2) (pL (P i))))) (va_up K j (kAd (K j), 0, kOf (K j), kSk (K j), none)) du (va_up (va_up g 9 (upd (g 9) j 0)) 6 (upd ((va_up g 9 (upd (g 9) j 0)) 6) (20 * i + j) 1)) := by
  generalize hG : va_up (va_up g 9 (upd (g 9) j 0)) 6 (upd ((va_up g 9 (upd (g 9) j 0)) 6) (20 * i + j) 1) = G
  have e : ∀ k : Nat, k ≠ 6 → k ≠ 9 → G k = g k := fun k h1 h2 => by rw [← hG, vu_ne h1, vu_ne h2]
  have e6 : G 6 = upd (g 6) (20 * i + j) 1 := by rw [← hG, vu_same, vu_ne (show (6 : Nat) ≠ 9 by decide)]
  have e9 : G 9 = upd (g 9) j 0 := by rw [← hG, vu_ne (show (9 : Nat) ≠ 6 by decide), vu_same]
  obtain ⟨a1, a2, a3, a4, a5, a6⟩ := h.1 i hi
  have hc := sE_cnt (x := -2) (pL (P i)) a5.1 hm hq
  refine sR_one h hi (j0 := j) (fun i' hi' j' hj' => ?_) (fun j' hj' hne => ?_) (fun i' _ k _ _ => by rw [e k (by omega) (by omega)]) (fun i' _ m _ => by rw [e 5 (by decide) (by decide)]) (fun j' hj' => ?_) ?_ (fun j' hj' hne q' o' hm' => ?_) (fun z => z) ?_ (fun j' _ hne => by rw [vp_un hne])
  · rw [e6, e 7 (by decide) (by decide), e 8 (by decide) (by decide), pk_un (ix_ne hj' hj (Or.inl hi'))]
    exact ⟨rfl, rfl, rfl⟩
  · rw [e6, pk_un (ix_ne hj' hj (Or.inr hne))]
  · rw [e9, e 10 (by decide) (by decide), e 11 (by decide) (by decide)]
    by_cases hij : j' = j
    · subst hij
      rw [vp_us, pk_us]
      have hh := h.2.1 j' hj'
      exact ⟨rfl, hh.2.1, hh.2.2.1, Or.inl rfl⟩
    · rw [vp_un hij, pk_un hij]; exact h.2.1 j' hj'
  · refine ⟨a1, by rw [e 1 (by decide) (by decide)]; exact a2, by rw [e 2 (by decide) (by decide)]; exact a3, by rw [e 3 (by decide) (by decide)]; exact a4, lR_sE a5 hm hq (fun j' hj' hne => ?_) hj ?_, fun z => ?_⟩
    · rw [e6, e 7 (by decide) (by decide), e 8 (by decide) (by decide), pk_un (ix_ne hj' hj (Or.inr hne))]
      exact ⟨rfl, rfl, rfl⟩
    · have ht := lR_at a5 hj hm rfl
      refine ⟨by rw [e 7 (by decide) (by decide)]; exact ht.1, Or.inr (Or.inl ⟨rfl, by rw [e6, pk_us], ?_⟩)⟩
      rw [e 8 (by decide) (by decide)]
      rcases ht.2 with y | y | y
      · exact y.2.2
      · exact y.2.2
      · exact absurd (show (-1 : Int32) < 0 by decide) y.1
    · obtain ⟨b1, k, b2⟩ := a6 z
      refine ⟨b1, k, kR_congr (x := P i) (by rw [e 4 (by decide) (by decide)]) (fun m _ => by rw [e 5 (by decide) (by decide)]) rfl rfl ?_ (fun v hv => ?_) b2⟩
      · show cA (sE q (-2) (pL (P i))) = _
        rw [hc.1, if_pos (by decide)]; rfl
      · show hasE v (sE q (-2) (pL (P i))) = _
        rw [hc.2 v hv, show decide ((-2 : Int32) = v) = false from decide_eq_false (fun z => hv (by rw [← z]; decide))]
        rfl
  · refine sE_mem.mpr ⟨_, hm', ?_⟩
    rw [if_neg (fun z => hne ?_)]
    have z2 : nI j' = nI j := hq _ hm' z
    rw [nI_eq (by omega) (by omega)] at z2
    exact z2
  · rw [vp_us]
    refine Or.inl ⟨rfl, fun i' hi' z => ?_⟩
    rw [e6] at z
    by_cases hii : i' = i
    · subst hii; rw [pk_us] at z; exact absurd z (by decide)
    · rw [pk_un (ix_ne hj hj (Or.inl hii))] at z
      exact hii ((hu i' hi').mp z)
/-- a new picture -/
theorem sR_picture (h : sR mo n P K du g) (hn : n < 300) (q : Nat) (t : Int64) (sk : Int32) (hc : nI (cW P n) < mo) : sR mo (n + 1) (va_up P n (q, t, sk, 2, 0, 0, 0, [])) K (vp_updL du (n + 1) t) (va_up g 1 (upd (g 1) (n + 1) sk)) := by
  generalize hG : va_up g 1 (upd (g 1) (n + 1) sk) = G
  have e : ∀ k : Nat, k ≠ 1 → G k = g k := fun k h1 => by rw [← hG, vu_ne h1]
  have e1 : G 1 = upd (g 1) (n + 1) sk := by rw [← hG, vu_same]
  obtain ⟨h1, h2, h3, h4, h5, M, h6, h7, h8, h9⟩ := h
  have hcw : ∀ m : Nat, m ≤ n → cW (va_up P n (q, t, sk, 2, 0, 0, 0, [])) m = cW P m := by
    intro m
    induction m with
    | zero => intro _; rfl
    | succ m ih => intro hm; simp only [cW]; rw [ih (by omega), vp_un (by omega : m ≠ n)]
  have hcn : cW P n ≤ n := by
    have : ∀ m : Nat, cW P m ≤ m := by
      intro m
      induction m with
      | zero => exact Nat.le_refl _
      | succ m ih => simp only [cW]; split <;> omega
    exact this n
  refine ⟨fun i hi => ?_, fun j hj => by rw [e 9 (by decide), e 10 (by decide), e 11 (by decide)]; exact h2 j hj, fun j hj => ?_, fun p hp1 hp2 => by rw [e 2 (by decide), e 3 (by decide), e 4 (by decide)]; exact h4 p (by omega) hp2, fun i hi1 hi2 j hj => by rw [e 6 (by decide), e 8 (by decide)]; exact h5 i (by omega) hi2 j hj, M, h6, h7, h8, ?_⟩
  · by_cases hin : i = n
    · subst hin
      rw [vp_us]
      have z := h4 (i + 1) (by omega) (by omega)
      refine ⟨by rw [pk_uLs]; rfl, by rw [e1, pk_us]; rfl, by rw [e 2 (by decide), z.1]; rfl, by rw [e 3 (by decide), z.2.1]; rfl, ⟨List.Pairwise.nil, fun s hs => (by cases hs), fun j hj _ => by rw [e 6 (by decide), e 8 (by decide)]; exact h5 i (Nat.le_refl _) hn j hj⟩, fun _ => ⟨rfl, 0, by decide, rfl, by rw [e 4 (by decide), z.2.2]; rfl, rfl, rfl, fun v _ => rfl, fun z => by cases z⟩⟩
    · rw [vp_un hin]
      refine pR_congr (pk_uLn (by omega)) (fun k hk1 hk2 => ?_) (fun m _ => by rw [e 5 (by decide)]) (fun j _ => by rw [e 6 (by decide), e 7 (by decide), e 8 (by decide)]; exact ⟨rfl, rfl, rfl⟩) (h1 i (by omega))
      by_cases hk : k = 1
      · subst hk; rw [e1, pk_un (by omega)]
      · rw [e k hk]
  · rcases h3 j hj with ⟨b1, b2⟩ | ⟨i, q', o, b1, b2, b3, b4⟩
    · refine Or.inl ⟨b1, fun i hi => ?_⟩
      rw [e 6 (by decide)]
      by_cases hin : i = n
      · subst hin; rw [(h5 i (Nat.le_refl _) hn j hj).1]; decide
      · exact b2 i (by omega)
    · refine Or.inr ⟨i, q', o, by omega, b2, by rw [vp_un (by omega)]; exact b3, fun i' hi' => ?_⟩
      rw [e 6 (by decide)]
      by_cases hin : i' = n
      · subst hin
        rw [(h5 i' (Nat.le_refl _) hn j hj).1]
        exact ⟨fun z => absurd z (by decide), fun z => by omega⟩
      · exact b4 i' (by omega)
  · rw [h8, nI_ltI (by omega) (by omega)] at hc
    simp only [cW]
    rw [hcw n (Nat.le_refl _)]
    split <;> omega
end OPS
end
section
/-! answer, on both sides -/
section ANS
variable {mo : Int32} {n : Nat} {P : Nat → PT} {K : Nat → KT} {du : Nat → Int64} {g : Nat → Nat → Int32} {i j q : Nat} {o en : Int32}
theorem sR_ansG (h : sR mo n P K du g) (hj : j < 20) (hi : i < n) (hm : (q, nI j, o, -1) ∈ pL (P i)) (hu : ∀ i' : Nat, i' < n → (g 6 (20 * i' + j) = 2 ↔ i' = i)) (hq : ∀ s ∈ pL (P i), s.1 = q → s.2.1 = nI j) (hen : ¬ en < 0) {G : Nat → Nat → Int32} {x' : PT}
    (e6 : G 6 = upd (g 6) (20 * i + j) 3) (e8 : G 8 = upd (g 8) (20 * i + j) en) (e1 : G 1 = g 1) (e7 : G 7 = g 7) (e9 : G 9 = g 9) (e10 : G 10 = g 10) (e11 : G 11 = g 11)
    (Hc : ∀ i' : Nat, i' ≠ i → ∀ k : Nat, 2 ≤ k → k ≤ 4 → G k (i' + 1) = g k (i' + 1)) (Hc5 : ∀ i' : Nat, i' ≠ i → ∀ m : Nat, m < 3 → G 5 (3 * (i' + 1) + m) = g 5 (3 * (i' + 1) + m))
    (x1 : pDu x' = pDu (P i)) (x2 : pSk x' = pSk (P i)) (x3 : pEn x' = G 2 (i + 1)) (x4 : pSw x' = G 3 (i + 1)) (x5 : pL x' = sE q en (pL (P i))) (x6 : pEn x' = 0 → pSw x' = 0 ∧ ∃ k : Nat, kR x' G i k) (x7 : pEn x' = 0 → pEn (P i) = 0) :
    sR mo n (va_up P i x') (va_up K j (kAd (K j), kIn (K j), kOf (K j), kSk (K j), none)) du G := by
  obtain ⟨a1, a2, a3, a4, a5, a6⟩ := h.1 i hi
  refine sR_one h hi (j0 := j) (fun i' hi' j' hj' => ?_) (fun j' hj' hne => ?_) (fun i' hi' k hk1 hk2 => ?_) Hc5 (fun j' hj' => ?_) ?_ (fun j' hj' hne q' o' hm' => ?_) x7 ?_ (fun j' _ hne => by rw [vp_un hne])
  · rw [e6, e7, e8, pk_un (ix_ne hj' hj (Or.inl hi')), pk_un (ix_ne hj' hj (Or.inl hi'))]
    exact ⟨rfl, rfl, rfl⟩
  · rw [e6, pk_un (ix_ne hj' hj (Or.inr hne))]
  · by_cases hk : k = 1
    · subst hk; rw [e1]
    · exact Hc i' hi' k (by omega) hk2
  · rw [e9, e10, e11]
    by_cases hij : j' = j
    · subst hij; rw [vp_us]; exact h.2.1 j' hj'
    · rw [vp_un hij]; exact h.2.1 j' hj'
  · refine ⟨x1.trans a1, by rw [e1]; exact x2.trans a2, x3, x4, ?_, x6⟩
    rw [x5]
    refine lR_sE a5 hm hq (fun j' hj' hne => ?_) hj ?_
    · rw [e6, e7, e8, pk_un (ix_ne hj' hj (Or.inr hne)), pk_un (ix_ne hj' hj (Or.inr hne))]
      exact ⟨rfl, rfl, rfl⟩
    · have ht := lR_at a5 hj hm rfl
      exact ⟨by rw [e7]; exact ht.1, Or.inr (Or.inr ⟨hen, by rw [e6, pk_us], by rw [e8, pk_us]⟩)⟩
  · rw [x5]
    refine sE_mem.mpr ⟨_, hm', ?_⟩
    rw [if_neg (fun z => hne ?_)]
    have z2 : nI j' = nI j := hq _ hm' z
    rw [nI_eq (by omega) (by omega)] at z2
    exact z2
  · rw [vp_us]
    refine Or.inl ⟨rfl, fun i' hi' z => ?_⟩
    rw [e6] at z
    by_cases hii : i' = i
    · subst hii; rw [pk_us] at z; exact absurd z (by decide)
    · rw [pk_un (ix_ne hj hj (Or.inl hii))] at z
      exact hii ((hu i' hi').mp z)
/-- the picture after an answer -/
abbrev xA (x : PT) (q : Nat) (en : Int32) : PT := (pAd x, pDu x, pSk x, (tE (pWa x) (pAn x + 1) (pEn x) (pSw x) en (hasE en (pL x))).1, pAn x + 1, (tE (pWa x) (pAn x + 1) (pEn x) (pSw x) en (hasE en (pL x))).2.1, (tE (pWa x) (pAn x + 1) (pEn x) (pSw x) en (hasE en (pL x))).2.2, sE q en (pL x))
abbrev aG3 (g : Nat → Nat → Int32) (i j : Nat) (en : Int32) : Nat → Nat → Int32 := va_up (va_up g 6 (upd (g 6) (20 * i + j) 3)) 8 (upd ((va_up g 6 (upd (g 6) (20 * i + j) 3)) 8) (20 * i + j) en)
theorem en_le0 (hen : ¬ en < 0) : en ≤ 0 ↔ en = 0 := by
  rw [Int32.lt_iff_toInt_lt] at hen
  rw [Int32.le_iff_toInt_le, ← Int32.toInt_inj]
  have e0 : (0 : Int32).toInt = 0 := by decide
  omega
theorem sR_answer (h : sR mo n P K du g) (hj : j < 20) (hi : i < n) (hm : (q, nI j, o, -1) ∈ pL (P i)) (hu : ∀ i' : Nat, i' < n → (g 6 (20 * i' + j) = 2 ↔ i' = i)) (hq : ∀ s ∈ pL (P i), s.1 = q → s.2.1 = nI j) (hen : ¬ en < 0) {G : Nat → Nat → Int32}
    (hG : (¬ aG3 g i j en 2 (i + 1) = 0 ∧ G = aG3 g i j en) ∨ (aG3 g i j en 2 (i + 1) = 0 ∧ ∃ k : Nat, k ≤ 2 ∧ g 4 (i + 1) = nI k ∧ ((bl (aG3 g i j en 5) i en k = true ∧ G = tB (aG3 g i j en) i k en) ∨ (¬ bl (aG3 g i j en 5) i en k = true ∧ nI k = 2 ∧ G = tC (aG3 g i j en) i k en) ∨ (¬ bl (aG3 g i j en 5) i en k = true ∧ ¬ nI k = 2 ∧ G = tA (aG3 g i j en) i k en)))) :
    sR mo n (va_up P i (xA (P i) q en)) (va_up K j (kAd (K j), kIn (K j), kOf (K j), kSk (K j), none)) du G := by
  have s6 : aG3 g i j en 6 = upd (g 6) (20 * i + j) 3 := by unfold aG3; rw [vu_ne (show (6 : Nat) ≠ 8 by decide), vu_same]
  have s8 : aG3 g i j en 8 = upd (g 8) (20 * i + j) en := by unfold aG3; rw [vu_same, vu_ne (show (8 : Nat) ≠ 6 by decide)]
  have sk : ∀ k : Nat, k ≠ 6 → k ≠ 8 → aG3 g i j en k = g k := fun k h1 h2 => by unfold aG3; rw [vu_ne h2, vu_ne h1]
  generalize aG3 g i j en = S at s6 s8 sk hG
  obtain ⟨a1, a2, a3, a4, a5, a6⟩ := h.1 i hi
  have hc := sE_cnt (x := en) (pL (P i)) a5.1 hm hq
  have s2 : S 2 = g 2 := sk 2 (by decide) (by decide)
  rcases hG with ⟨hn, rfl⟩ | ⟨hz, k, hk2, hk4, hG⟩
  · have hne : ¬ pEn (P i) = 0 := fun z => hn (by rw [s2, ← a3]; exact z)
    have ht : tE (pWa (P i)) (pAn (P i) + 1) (pEn (P i)) (pSw (P i)) en (hasE en (pL (P i))) = (pWa (P i), pEn (P i), pSw (P i)) := if_pos hne
    refine sR_ansG h hj hi hm hu hq hen s6 s8 (sk 1 (by decide) (by decide)) (sk 7 (by decide) (by decide)) (sk 9 (by decide) (by decide)) (sk 10 (by decide) (by decide)) (sk 11 (by decide) (by decide)) (fun i' _ k hk1 hk2 => by rw [sk k (by omega) (by omega)]) (fun i' _ m _ => by rw [sk 5 (by decide) (by decide)]) rfl rfl ?_ ?_ rfl (fun z => ?_) (fun z => ?_)
    · show (tE _ _ _ _ _ _).2.1 = _
      rw [ht, s2]; exact a3
    · show (tE _ _ _ _ _ _).2.2 = _
      rw [ht, sk 3 (by decide) (by decide)]; exact a4
    · have z' : (tE (pWa (P i)) (pAn (P i) + 1) (pEn (P i)) (pSw (P i)) en (hasE en (pL (P i)))).2.1 = 0 := z
      rw [ht] at z'
      exact absurd z' hne
    · have z' : (tE (pWa (P i)) (pAn (P i) + 1) (pEn (P i)) (pSw (P i)) en (hasE en (pL (P i)))).2.1 = 0 := z
      rw [ht] at z'
      exact z'
  · have hz' : pEn (P i) = 0 := by rw [a3, ← s2]; exact hz
    obtain ⟨b1, k0, b2⟩ := a6 hz'
    have hkk : k0 = k := by
      have := b2.2.2.1.symm.trans hk4
      rw [nI_eq (by have := b2.1; omega) (by omega)] at this
      exact this
    subst hkk
    have hal : hasE en (pL (P i)) = bl (S 5) i en k0 := by rw [sk 5 (by decide) (by decide)]; exact b2.2.2.2.2.2.1 en hen
    have b21 := b2.2.1
    have c1 : tA S i k0 en 1 = g 1 := by unfold tA; rw [vu_ne (by decide), vu_ne (by decide), sk 1 (by decide) (by decide)]
    have c2 : tA S i k0 en 2 = g 2 := by unfold tA; rw [vu_ne (by decide), vu_ne (by decide), s2]
    have c3 : tA S i k0 en 3 = g 3 := by unfold tA; rw [vu_ne (by decide), vu_ne (by decide), sk 3 (by decide) (by decide)]
    have c4 : tA S i k0 en 4 = upd (g 4) (i + 1) (g 4 (i + 1) + 1) := by unfold tA; rw [vu_same, vu_ne (by decide), sk 4 (by decide) (by decide)]
    have c5 : tA S i k0 en 5 = upd (g 5) (3 * (i + 1) + k0) en := by unfold tA; rw [vu_ne (by decide), vu_same, sk 5 (by decide) (by decide)]
    have c6 : tA S i k0 en 6 = upd (g 6) (20 * i + j) 3 := by unfold tA; rw [vu_ne (by decide), vu_ne (by decide), s6]
    have c7 : tA S i k0 en 7 = g 7 := by unfold tA; rw [vu_ne (by decide), vu_ne (by decide), sk 7 (by decide) (by decide)]
    have c8 : tA S i k0 en 8 = upd (g 8) (20 * i + j) en := by unfold tA; rw [vu_ne (by decide), vu_ne (by decide), s8]
    have c9 : tA S i k0 en 9 = g 9 := by unfold tA; rw [vu_ne (by decide), vu_ne (by decide), sk 9 (by decide) (by decide)]
    have c10 : tA S i k0 en 10 = g 10 := by unfold tA; rw [vu_ne (by decide), vu_ne (by decide), sk 10 (by decide) (by decide)]
    have c11 : tA S i k0 en 11 = g 11 := by unfold tA; rw [vu_ne (by decide), vu_ne (by decide), sk 11 (by decide) (by decide)]
    have cc : ∀ i' : Nat, i' ≠ i → ∀ k : Nat, 2 ≤ k → k ≤ 4 → tA S i k0 en k (i' + 1) = g k (i' + 1) := fun i' hi' k h1 h2 => by
      rcases (show k = 2 ∨ k = 3 ∨ k = 4 by omega) with rfl | rfl | rfl
      · rw [c2]
      · rw [c3]
      · rw [c4, pk_un (by omega)]
    have cc5 : ∀ i' : Nat, i' ≠ i → ∀ m : Nat, m < 3 → tA S i k0 en 5 (3 * (i' + 1) + m) = g 5 (3 * (i' + 1) + m) := fun i' hi' m hm => by
      rw [c5, pk_un (by omega)]
    unfold tB tC at hG
    generalize tA S i k0 en = T at c1 c2 c3 c4 c5 c6 c7 c8 c9 c10 c11 cc cc5 hG
    rcases hG with ⟨hb, hGe⟩ | ⟨hb, hk, hGe⟩ | ⟨hb, hk, hGe⟩
    · have d : ∀ k : Nat, k ≠ 2 → k ≠ 3 → G k = T k := fun k h1 h2 => by rw [hGe, vu_ne h2, vu_ne h1]
      have d2 : G 2 = upd (g 2) (i + 1) (if en ≤ 0 then 3 else 2) := by rw [hGe, vu_ne (by decide), vu_same, c2]
      have d3 : G 3 = upd (g 3) (i + 1) en := by rw [hGe, vu_same, vu_ne (by decide), c3]
      have ht : tE (pWa (P i)) (pAn (P i) + 1) (pEn (P i)) (pSw (P i)) en (hasE en (pL (P i))) = (pWa (P i), (if en = 0 then 3 else 2), (if en = 0 then pSw (P i) else en)) := by
        unfold tE
        rw [if_neg (fun z => z hz'), hal, if_pos hb]
      have hnz : ¬ (if en = 0 then (3 : Int32) else 2) = 0 := by split <;> decide
      refine sR_ansG h hj hi hm hu hq hen (by rw [d 6 (by decide) (by decide), c6]) (by rw [d 8 (by decide) (by decide), c8]) (by rw [d 1 (by decide) (by decide), c1]) (by rw [d 7 (by decide) (by decide), c7]) (by rw [d 9 (by decide) (by decide), c9]) (by rw [d 10 (by decide) (by decide), c10]) (by rw [d 11 (by decide) (by decide), c11]) (fun i' hi' k hk1 hk2 => ?_) (fun i' hi' m hm' => by rw [d 5 (by decide) (by decide)]; exact cc5 i' hi' m hm') rfl rfl ?_ ?_ rfl (fun z => ?_) (fun _ => hz')
      · rcases (show k = 2 ∨ k = 3 ∨ k = 4 by omega) with rfl | rfl | rfl
        · rw [d2, pk_un (by omega)]
        · rw [d3, pk_un (by omega)]
        · rw [d 4 (by decide) (by decide)]; exact cc i' hi' 4 (by decide) (by decide)
      · show (tE _ _ _ _ _ _).2.1 = _
        rw [ht, d2, pk_us]
        by_cases h0 : en = 0
        · rw [if_pos h0, if_pos ((en_le0 hen).mpr h0)]
        · rw [if_neg h0, if_neg (fun z => h0 ((en_le0 hen).mp z))]
      · show (tE _ _ _ _ _ _).2.2 = _
        rw [ht, d3, pk_us]
        show (if en = 0 then pSw (P i) else en) = en
        by_cases h0 : en = 0
        · rw [if_pos h0, b1, h0]
        · rw [if_neg h0]
      · have z' : (tE (pWa (P i)) (pAn (P i) + 1) (pEn (P i)) (pSw (P i)) en (hasE en (pL (P i)))).2.1 = 0 := z
        rw [ht] at z'
        exact absurd z' hnz
    · have hk3 : k0 = 2 := by
        rw [show (2 : Int32) = nI 2 from rfl, nI_eq (by omega) (by omega)] at hk
        exact hk
      subst hk3
      have d : ∀ k : Nat, k ≠ 2 → G k = T k := fun k h1 => by rw [hGe, vu_ne h1]
      have d2 : G 2 = upd (g 2) (i + 1) 3 := by rw [hGe, vu_same, c2]
      have ht : tE (pWa (P i)) (pAn (P i) + 1) (pEn (P i)) (pSw (P i)) en (hasE en (pL (P i))) = (pWa (P i), 3, pSw (P i)) := by
        unfold tE
        rw [if_neg (fun z => z hz'), hal, if_neg hb, b21, if_neg (by decide), if_neg (by decide)]
      refine sR_ansG h hj hi hm hu hq hen (by rw [d 6 (by decide), c6]) (by rw [d 8 (by decide), c8]) (by rw [d 1 (by decide), c1]) (by rw [d 7 (by decide), c7]) (by rw [d 9 (by decide), c9]) (by rw [d 10 (by decide), c10]) (by rw [d 11 (by decide), c11]) (fun i' hi' k hk1 hk2 => ?_) (fun i' hi' m hm' => by rw [d 5 (by decide)]; exact cc5 i' hi' m hm') rfl rfl ?_ ?_ rfl (fun z => ?_) (fun _ => hz')
      · by_cases hk' : k = 2
        · subst hk'; rw [d2, pk_un (by omega)]
        · rw [d k hk']; exact cc i' hi' k hk1 hk2
      · show (tE _ _ _ _ _ _).2.1 = _
        rw [ht, d2, pk_us]
      · show (tE _ _ _ _ _ _).2.2 = _
        rw [ht, d 3 (by decide), c3]; exact a4
      · have z' : (tE (pWa (P i)) (pAn (P i) + 1) (pEn (P i)) (pSw (P i)) en (hasE en (pL (P i)))).2.1 = 0 := z
        rw [ht] at z'
        exact absurd z' (by show ¬ (3 : Int32) = 0; decide)
    · subst hGe
      have hk01 : k0 = 0 ∨ k0 = 1 := by
        have hne : k0 ≠ 2 := fun z => hk (by rw [z]; rfl)
        omega
      have ht : tE (pWa (P i)) (pAn (P i) + 1) (pEn (P i)) (pSw (P i)) en (hasE en (pL (P i))) = ((if k0 + 1 = 2 then 3 else 2), pEn (P i), pSw (P i)) := by
        unfold tE
        rw [if_neg (fun z => z hz'), hal, if_neg hb, b21, b2.2.2.2.1]
        rcases hk01 with rfl | rfl
        · rw [if_neg (by decide), if_pos (by decide), if_neg (by decide), if_neg (by decide)]
        · rw [if_pos (by decide), if_pos (by decide)]
      have hblm : ∀ (v : Int32) (m : Nat), m ≤ k0 → bl (G 5) i v m = bl (g 5) i v m := by
        intro v m
        induction m with
        | zero => intro _; rfl
        | succ m ih => intro hm'; simp only [bl]; rw [ih (by omega), c5, pk_un (by omega)]
      refine sR_ansG h hj hi hm hu hq hen c6 c8 c1 c7 c9 c10 c11 cc cc5 rfl rfl ?_ ?_ rfl (fun z => ?_) (fun _ => hz')
      · show (tE _ _ _ _ _ _).2.1 = _
        rw [ht, c2]; exact a3
      · show (tE _ _ _ _ _ _).2.2 = _
        rw [ht, c3]; exact a4
      · refine ⟨?_, k0 + 1, by omega, ?_, ?_, ?_, ?_, fun v hv => ?_, fun hk1 => ?_⟩
        · show (tE _ _ _ _ _ _).2.2 = 0
          rw [ht]; exact b1
        · show pAn (P i) + 1 = _
          rw [b21, nI_succ]
        · rw [c4, pk_us, hk4, nI_succ]
        · show (tE _ _ _ _ _ _).1 = _
          rw [ht]
        · show cA (sE q en (pL (P i))) = _
          rw [hc.1, if_neg hen, b2.2.2.2.2.1]
        · show hasE v (sE q en (pL (P i))) = _
          rw [hc.2 v hv, b2.2.2.2.2.2.1 v hv]
          show _ = (bl (G 5) i v k0 || decide (G 5 (3 * (i + 1) + k0) = v))
          rw [hblm v k0 (Nat.le_refl _), c5, pk_us, Bool.or_comm]
        · have hk1' : k0 = 1 := by omega
          subst hk1'
          rw [c5, pk_us, pk_un (by omega)]
          intro z
          apply hb
          rw [sk 5 (by decide) (by decide)]
          show (false || decide (g 5 (3 * (i + 1) + 0) = en)) = true
          rw [Nat.add_zero, z]
          simp
end ANS
end
section
/-! both sides after a call -/
def JR (fc fm : wd_M) (ca : Nat → ClassId) (a b : Nat) : Prop := ∃ (mo : Int32) (nw : Int64) (lt : Int32) (n : Nat) (P : Nat → PT) (K : Nat → KT) (AD : Nat → Nat) (th : Int32) (du : Nat → Int64) (g : Nat → Nat → Int32), rC fc ca a mo nw lt n P K ∧ rM fm ca b AD th mo n nw lt du g ∧ sR mo n P K du g
theorem n300 {n : Nat} (h : n ≤ 300) : ¬ nI n < 300 ↔ nI n = 300 := by
  rw [show (300 : Int32) = nI 300 from rfl, nI_ltI (by omega) (by omega), nI_eq (by omega) (by omega)]
  omega
theorem nI_uniq {x : Int32} {j j' : Nat} (hj : j < 20) (hj' : j' < 20) (h : x = nI j) (h' : x = nI j') : j' = j := by
  have e := h'.symm.trans h
  rw [nI_eq (by omega) (by omega)] at e
  exact e
theorem nI_uniq1 {x : Int32} {i i' n : Nat} (hn : n ≤ 300) (hi : i < n) (hi' : i' < n) (h : x = nI (i + 1)) (h' : x = nI (i' + 1)) : i' = i := by
  have e := h'.symm.trans h
  rw [nI_eq (by omega) (by omega)] at e
  omega
theorem noK_ok {x : Int32} (h : ∀ j : Nat, j < 20 → x ≠ nI j) : ¬ okK x := fun z => by
  obtain ⟨j, hj, e⟩ := ok20 z.1 z.2
  exact h j hj e
theorem noP_ok {x : Int32} {n : Nat} (hn : n ≤ 300) (h : ∀ i : Nat, i < n → x ≠ nI (i + 1)) : ¬ (¬ x < 1 ∧ ¬ nI n < x) := fun z => by
  obtain ⟨i, hi, e⟩ := okN_of hn z.1 z.2
  exact h i hi e
theorem okN_ex {x : Int32} {n i : Nat} (hn : n ≤ 300) (hi : i < n) (hx : x = nI (i + 1)) : ¬ x < 1 ∧ ¬ nI n < x := by
  subst hx
  exact ⟨nI_nlt (by omega : 1 ≤ i + 1) (by omega), nI_nlt (by omega : i + 1 ≤ n) (by omega)⟩
theorem hd_tu {n : Nat} {P : Nat → PT} {tu : Option Nat} {g : Nat → Nat → Int32} {j : Nat} (hn : n ≤ 300) (h : hR n P tu g j) : tu = none ↔ nI (hd (g 6) j n) ≤ 0 := by
  rw [nI_le0 (hd_lt hn)]
  rcases h with ⟨h1, h2⟩ | ⟨i, q, o, h1, h2, h3, h4⟩
  · exact ⟨fun _ => hd_none n h2, fun _ => h1⟩
  · rw [hd_some n h1 h4, h2]
    exact ⟨fun z => (by cases z), fun z => (by omega)⟩
section JNT
variable {fc fm fc' fm' : wd_M} {ca : Nat → ClassId} {a b : Nat} {mo : Int32} {nw : Int64} {lt : Int32} {n : Nat} {P : Nat → PT} {K : Nat → KT} {AD : Nat → Nat} {th : Int32} {du : Nat → Int64} {g : Nat → Nat → Int32} {pa ka : Nat} {gp gk : Nat → Option Nat} {r1 r2 : Int32}
theorem rC_mk (h1 : fc a = some (eR mo pa ka (nI n) nw lt)) (h2 : fc pa = some (eA (ca 0) 300 gp)) (h3 : fc ka = some (eA (ca 1) 20 gk)) (h4 : rp fc gp n P) (h5 : rk fc gk K) (h6 : pa ≠ ka) : rC fc ca a mo nw lt n P K := ⟨pa, ka, gp, gk, h1, h2, h3, h4, h5, h6⟩
theorem rC_pass (h1 : fc a = some (eR mo pa ka (nI n) nw lt)) (h3 : fc ka = some (eA (ca 1) 20 gk)) (h4 : rp fc gp n P) (h5 : rk fc gk K) (h6 : pa ≠ ka) {t : Int64} (g1 : fc' a = some (eR mo pa ka (nI n) t (lt + nI (cL t P n)))) (g2 : fc' pa = some (eA (ca 0) 300 gp)) (g3 : rp fc' gp n (pst t P n)) (g4 : ∀ q : Nat, q ≠ a → (∀ j : Nat, j < n → q ≠ pAd (P j)) → fc' q = fc q) : rC fc' ca a mo t (lt + nI (cL t P n)) n (pst t P n) K :=
  ⟨pa, ka, gp, gk, g1, g2, ar_keep h3 h1 h4 g4, g3, rk_keep h5 h1 h4 g4, h6⟩
theorem J_picture (h1 : fc a = some (eR mo pa ka (nI n) nw lt)) (h2 : fc pa = some (eA (ca 0) 300 gp)) (h3 : fc ka = some (eA (ca 1) 20 gk)) (h4 : rp fc gp n P) (h5 : rk fc gk K) (h6 : pa ≠ ka) (hM : rM fm ca b AD th mo n nw lt du g) (hS : sR mo n P K du g) {t : Int64} {sk : Int32}
    (p1 : (¬ (isT nw t ∧ wi sk 3) ∧ r1 = -102 ∧ fc' = fc) ∨ ((isT nw t ∧ wi sk 3) ∧ ((¬ nI n < 300 ∧ r1 = -104 ∧ fc' = fc) ∨ (nI n < 300 ∧ ((¬ nI (cW P n) < mo ∧ r1 = 0 ∧ fc' = fc) ∨ (nI (cW P n) < mo ∧ ∃ q : Nat, fc q = none ∧ r1 = nI (n + 1) ∧ fc' = wd_up (wd_up (wd_up fc q (eP (nI (n + 1)) t sk 2 0 0 0 none)) pa (eA (ca 0) 300 (va_up gp n (some q)))) a (eR mo pa ka (nI (n + 1)) nw lt)))))))
    (p2 : (¬ (isT nw t ∧ wi sk 3) ∧ r2 = -102 ∧ rM fm' ca b AD 0 mo n nw lt du g) ∨ ((isT nw t ∧ wi sk 3) ∧ ((nI n = 300 ∧ r2 = -104 ∧ rM fm' ca b AD 0 mo n nw lt du g) ∨ (¬ nI n = 300 ∧ ((nI (oW (g 2) n) = mo ∧ r2 = 0 ∧ rM fm' ca b AD 0 mo n nw lt du g) ∨ (¬ nI (oW (g 2) n) = mo ∧ r2 = nI (n + 1) ∧ rM fm' ca b AD 0 mo (n + 1) nw lt (vp_updL du (n + 1) t) (va_up g 1 (upd (g 1) (n + 1) sk)))))))) :
    r1 = r2 ∧ JR fc' fm' ca a b := by
  have hC := rC_mk h1 h2 h3 h4 h5 h6
  have hn := hM.2.2.2.2
  have hcw : ¬ nI (cW P n) < mo ↔ nI (oW (g 2) n) = mo := by
    obtain ⟨M, m1, m2, m3, m4⟩ := hS.2.2.2.2.2
    rw [← cW_oW n hS.1, m3, nI_ltI (by omega) (by omega), nI_eq (by omega) (by omega)]
    omega
  rcases p1 with ⟨c1, e1, rfl⟩ | ⟨c1, p1⟩
  · rcases p2 with ⟨-, e2, m⟩ | ⟨c2, -⟩
    · exact ⟨e1.trans e2.symm, _, _, _, _, _, _, _, _, _, _, hC, m, hS⟩
    · exact absurd c2 c1
  · rcases p2 with ⟨c2, -⟩ | ⟨-, p2⟩
    · exact absurd c1 c2
    · rcases p1 with ⟨c3, e1, rfl⟩ | ⟨c3, p1⟩
      · rcases p2 with ⟨-, e2, m⟩ | ⟨c4, -⟩
        · exact ⟨e1.trans e2.symm, _, _, _, _, _, _, _, _, _, _, hC, m, hS⟩
        · exact absurd ((n300 hn).mp c3) c4
      · rcases p2 with ⟨c4, -⟩ | ⟨-, p2⟩
        · exact absurd c3 ((n300 hn).mpr c4)
        · rcases p1 with ⟨c5, e1, rfl⟩ | ⟨c5, q, hq, e1, rfl⟩
          · rcases p2 with ⟨-, e2, m⟩ | ⟨c6, -⟩
            · exact ⟨e1.trans e2.symm, _, _, _, _, _, _, _, _, _, _, hC, m, hS⟩
            · exact absurd (hcw.mp c5) c6
          · rcases p2 with ⟨c6, -⟩ | ⟨-, e2, m⟩
            · exact absurd c5 (hcw.mpr c6)
            · have hn3 : n < 300 := by
                rw [show (300 : Int32) = nI 300 from rfl, nI_ltI (by omega) (by omega)] at c3
                exact c3
              refine ⟨e1.trans e2.symm, mo, nw, lt, n + 1, va_up P n (q, t, sk, 2, 0, 0, 0, []), K, _, _, _, _, ?_, m, sR_picture hS hn3 q t sk c5⟩
              have npa : pa ≠ a := Ne.symm (wd_neA h1 h2)
              have nka : ka ≠ a := Ne.symm (wd_neA h1 h3)
              have nqa : q ≠ a := Ne.symm (wd_neF h1 hq)
              have nqp : q ≠ pa := Ne.symm (wd_neF h2 hq)
              have nqk : ka ≠ q := wd_neF h3 hq
              have s1 : ∀ e, wd_up fc q e pa = some (eA (ca 0) 300 gp) := fun e => by rw [wd_un (Ne.symm nqp)]; exact h2
              have s2 : ∀ e e', wd_up (wd_up fc q e) pa e' a = some (eR mo pa ka (nI n) nw lt) := fun e e' => by rw [wd_un (Ne.symm npa), wd_un (Ne.symm nqa)]; exact h1
              refine ⟨pa, ka, va_up gp n (some q), gk, wd_us, by rw [wd_un npa, wd_us], by rw [wd_un nka, wd_un (Ne.symm h6), wd_un nqk]; exact h3, ⟨by omega, fun i hi => ?_, fun i hi => ?_⟩, rk_off (rk_arr (rk_new h5 hq) (s1 _)) (s2 _ _) (by decide), h6⟩
              · by_cases hin : i = n
                · subst hin
                  rw [vp_us, vp_us]
                  exact ⟨rfl, none, by rw [show pAd ((q, t, sk, 2, 0, 0, 0, []) : PT) = q from rfl, wd_un nqa, wd_un nqp, wd_us]; rfl, rfl⟩
                · rw [vp_un hin, vp_un hin]
                  obtain ⟨k1, la, k2, k3⟩ := h4.2.1 i (by omega)
                  refine ⟨k1, la, ?_, cx_upC (s2 _ _) (by decide) (cx_upA (s1 _) (cx_upN hq k3))⟩
                  rw [wd_un (wd_ne k2 h1 (by decide)), wd_un (wd_neA k2 h2), wd_un (wd_neF k2 hq)]
                  exact k2
              · rw [vp_un (by omega)]
                exact h4.2.2 i (by omega)
theorem J_office (h1 : fc a = some (eR mo pa ka (nI n) nw lt)) (h2 : fc pa = some (eA (ca 0) 300 gp)) (h3 : fc ka = some (eA (ca 1) 20 gk)) (h4 : rp fc gp n P) (h5 : rk fc gk K) (h6 : pa ≠ ka) (hS : sR mo n P K du g) {x o sk : Int32}
    (p1 : ((∀ j : Nat, j < 20 → x ≠ nI j) ∧ r1 = -101 ∧ fc' = fc) ∨ ∃ j : Nat, j < 20 ∧ x = nI j ∧ ((¬ (wi o 4 ∧ wi sk 3) ∧ r1 = -102 ∧ fc' = fc) ∨ ((wi o 4 ∧ wi sk 3) ∧ (((¬ kIn (K j) = 0 ∧ kOf (K j) = o ∧ kSk (K j) = sk) ∧ r1 = 0 ∧ fc' = fc) ∨ (¬ (¬ kIn (K j) = 0 ∧ kOf (K j) = o ∧ kSk (K j) = sk) ∧ r1 = 1 ∧ fc' = wd_up fc (kAd (K j)) (eK (nI j) 1 o sk (kTu (K j))))))))
    (p2 : (¬ okK x ∧ r2 = -101 ∧ rM fm' ca b AD 0 mo n nw lt du g) ∨ ∃ j : Nat, j < 20 ∧ x = nI j ∧ ((¬ (wi o 4 ∧ wi sk 3) ∧ r2 = -102 ∧ rM fm' ca b AD 0 mo n nw lt du g) ∨ ((wi o 4 ∧ wi sk 3) ∧ r2 = (if ¬ g 9 j = 0 ∧ g 10 j = o ∧ g 11 j = sk then 0 else 1) ∧ rM fm' ca b AD 0 mo n nw lt du (va_up (va_up (va_up g 9 (upd (g 9) j 1)) 10 (upd ((va_up g 9 (upd (g 9) j 1)) 10) j o)) 11 (upd ((va_up (va_up g 9 (upd (g 9) j 1)) 10 (upd ((va_up g 9 (upd (g 9) j 1)) 10) j o)) 11) j sk))))) :
    r1 = r2 ∧ JR fc' fm' ca a b := by
  have hC := rC_mk h1 h2 h3 h4 h5 h6
  rcases p1 with ⟨c1, e1, rfl⟩ | ⟨j, hj, hx, p1⟩
  · rcases p2 with ⟨-, e2, m⟩ | ⟨j', hj', hx', -⟩
    · exact ⟨e1.trans e2.symm, _, _, _, _, _, _, _, _, _, _, hC, m, hS⟩
    · exact absurd hx' (c1 j' hj')
  · rcases p2 with ⟨c2, -⟩ | ⟨j', hj', hx', p2⟩
    · exact absurd (okK_of hj hx) c2
    · have := nI_uniq hj hj' hx hx'
      subst this
      have hcl := hS.2.1 j' hj
      rcases p1 with ⟨c3, e1, rfl⟩ | ⟨c3, p1⟩
      · rcases p2 with ⟨-, e2, m⟩ | ⟨c4, -⟩
        · exact ⟨e1.trans e2.symm, _, _, _, _, _, _, _, _, _, _, hC, m, hS⟩
        · exact absurd c4 c3
      · rcases p2 with ⟨c4, -⟩ | ⟨-, e2, m⟩
        · exact absurd c3 c4
        · rw [← hcl.1, ← hcl.2.1, ← hcl.2.2.1] at e2
          rcases p1 with ⟨c5, e1, rfl⟩ | ⟨c5, e1, rfl⟩
          · rw [if_pos c5] at e2
            exact ⟨e1.trans e2.symm, _, _, _, _, _, _, _, _, _, _, hC, m, sR_office0 hS hj c5.1 c5.2.1 c5.2.2⟩
          · rw [if_neg c5] at e2
            exact ⟨e1.trans e2.symm, _, _, _, _, _, _, _, _, _, _, rC_clerk hC hj (x := (kAd (K j'), 1, o, sk, kTu (K j'))) rfl, m, sR_office hS hj o sk⟩
theorem hq_of (h4 : rp fc gp n P) {i q : Nat} (hi : i < n) {ck to : Int32} {ea : Option Nat} {te : Int32} (hq : fc q = some (eT (nI (i + 1)) ck to ea te)) : ∀ s ∈ pL (P i), s.1 = q → s.2.1 = ck := fun s hs z => by
  obtain ⟨er, he⟩ := rp_turnAt h4 hi hs
  rw [z, hq] at he
  exact (eT_inj (Option.some.inj he)).2.1.symm
theorem J_leave (h1 : fc a = some (eR mo pa ka (nI n) nw lt)) (h2 : fc pa = some (eA (ca 0) 300 gp)) (h3 : fc ka = some (eA (ca 1) 20 gk)) (h4 : rp fc gp n P) (h5 : rk fc gk K) (h6 : pa ≠ ka) (hM : rM fm ca b AD th mo n nw lt du g) (hS : sR mo n P K du g) {x : Int32}
    (p1 : ((∀ j : Nat, j < 20 → x ≠ nI j) ∧ r1 = -101 ∧ fc' = fc) ∨ ∃ j : Nat, j < 20 ∧ x = nI j ∧ ((kIn (K j) = 0 ∧ r1 = -103 ∧ fc' = fc) ∨ (¬ kIn (K j) = 0 ∧ ((kTu (K j) = none ∧ r1 = 0 ∧ fc' = wd_up fc (kAd (K j)) (eK (nI j) 0 (kOf (K j)) (kSk (K j)) none)) ∨ ∃ (q : Nat) (pn ck to : Int32) (ea : Option Nat) (te : Int32), kTu (K j) = some q ∧ fc q = some (eT pn ck to ea te) ∧ r1 = 1 ∧ fc' = wd_up (wd_up fc q (eT pn ck to ea (-2))) (kAd (K j)) (eK (nI j) 0 (kOf (K j)) (kSk (K j)) none)))))
    (p2 : (¬ okK x ∧ r2 = -101 ∧ rM fm' ca b AD 0 mo n nw lt du g) ∨ ∃ j : Nat, j < 20 ∧ x = nI j ∧ ((g 9 j = 0 ∧ r2 = -103 ∧ rM fm' ca b AD 0 mo n nw lt du g) ∨ (¬ g 9 j = 0 ∧ ((hd (g 6) j n = 0 ∧ r2 = 0 ∧ rM fm' ca b AD 0 mo n nw lt du (va_up g 9 (upd (g 9) j 0))) ∨ ∃ b1 : Nat, hd (g 6) j n = b1 + 1 ∧ r2 = 1 ∧ rM fm' ca b AD 0 mo n nw lt du (va_up (va_up g 9 (upd (g 9) j 0)) 6 (upd ((va_up g 9 (upd (g 9) j 0)) 6) (20 * b1 + j) 1)))))) :
    r1 = r2 ∧ JR fc' fm' ca a b := by
  have hC := rC_mk h1 h2 h3 h4 h5 h6
  rcases p1 with ⟨c1, e1, rfl⟩ | ⟨j, hj, hx, p1⟩
  · rcases p2 with ⟨-, e2, m⟩ | ⟨j', hj', hx', -⟩
    · exact ⟨e1.trans e2.symm, _, _, _, _, _, _, _, _, _, _, hC, m, hS⟩
    · exact absurd hx' (c1 j' hj')
  · rcases p2 with ⟨c2, -⟩ | ⟨j', hj', hx', p2⟩
    · exact absurd (okK_of hj hx) c2
    · have := nI_uniq hj hj' hx hx'
      subst this
      have hcl := hS.2.1 j' hj
      have hh := hS.2.2.1 j' hj
      rcases p1 with ⟨c3, e1, rfl⟩ | ⟨c3, p1⟩
      · rcases p2 with ⟨-, e2, m⟩ | ⟨c4, -⟩
        · exact ⟨e1.trans e2.symm, _, _, _, _, _, _, _, _, _, _, hC, m, hS⟩
        · exact absurd (hcl.1.symm.trans c3) c4
      · rcases p2 with ⟨c4, -⟩ | ⟨-, p2⟩
        · exact absurd (hcl.1.trans c4) c3
        · rcases p1 with ⟨c5, e1, rfl⟩ | ⟨q, pn, ck, to, ea, te, c5, hq, e1, rfl⟩
          · rcases hh with ⟨-, k2⟩ | ⟨i, q, o, k1, k2, k3, k4⟩
            · rcases p2 with ⟨-, e2, m⟩ | ⟨b1, c6, -⟩
              · exact ⟨e1.trans e2.symm, _, _, _, _, _, _, _, _, _, _, rC_clerk hC hj (x := (kAd (K j'), 0, kOf (K j'), kSk (K j'), none)) rfl, m, sR_leave0 hS hj c5⟩
              · rw [hd_none n k2] at c6; omega
            · rw [c5] at k2; cases k2
          · rcases hh with ⟨k1, -⟩ | ⟨i, q', o, k1, k2, k3, k4⟩
            · rw [c5] at k1; cases k1
            · have hqq : q' = q := by rw [c5] at k2; exact (Option.some.inj k2).symm
              subst hqq
              obtain ⟨er, he⟩ := rp_turnAt h4 k1 k3
              have hin := eT_inj (Option.some.inj (hq.symm.trans he))
              obtain ⟨z1, z2, z3, z4⟩ := hin
              subst z1
              have hqf := hq_of h4 k1 hq
              rw [z2] at hqf
              rcases p2 with ⟨c6, -⟩ | ⟨b1, c6, e2, m⟩
              · rw [hd_some n k1 k4] at c6; omega
              · have hb1 : b1 = i := by rw [hd_some n k1 k4] at c6; omega
                subst hb1
                exact ⟨e1.trans e2.symm, _, _, _, _, _, _, _, _, _, _, rC_clerk (rC_turn hC k1 hq) hj (x := (kAd (K j'), 0, kOf (K j'), kSk (K j'), none)) rfl, m, sR_leave1 hS hj k1 k3 k4 hqf⟩
end JNT
end
section
/-! both sides after a call: the rest -/
section JNT2
variable {fc fm fc' fm' : wd_M} {ca : Nat → ClassId} {a b : Nat} {mo : Int32} {nw : Int64} {lt : Int32} {n : Nat} {P : Nat → PT} {K : Nat → KT} {AD : Nat → Nat} {th : Int32} {du : Nat → Int64} {g : Nat → Nat → Int32} {pa ka : Nat} {gp gk : Nat → Option Nat} {r1 r2 : Int32}
theorem J_tick (h1 : fc a = some (eR mo pa ka (nI n) nw lt)) (h2 : fc pa = some (eA (ca 0) 300 gp)) (h3 : fc ka = some (eA (ca 1) 20 gk)) (h4 : rp fc gp n P) (h5 : rk fc gk K) (h6 : pa ≠ ka) (hS : sR mo n P K du g) {t : Int64}
    (p1 : (¬ isT nw t ∧ r1 = -102 ∧ fc' = fc) ∨ (isT nw t ∧ ∃ f1 : wd_M, f1 a = some (eR mo pa ka (nI n) t (lt + nI (cL t P n))) ∧ f1 pa = some (eA (ca 0) 300 gp) ∧ rp f1 gp n (pst t P n) ∧ (∀ q : Nat, q ≠ a → (∀ j : Nat, j < n → q ≠ pAd (P j)) → f1 q = fc q) ∧ r1 = lt + nI (cL t P n) ∧ fc' = wd_up f1 a (eR mo pa ka (nI n) t 0)))
    (p2 : (¬ isT nw t ∧ r2 = -102 ∧ rM fm' ca b AD 0 mo n nw lt du g) ∨ (isT nw t ∧ r2 = lt + nI (mC t du (g 2) n) ∧ rM fm' ca b AD 0 mo n t 0 du (va_up g 2 (mE t du (g 2) n)))) :
    r1 = r2 ∧ JR fc' fm' ca a b := by
  have hC := rC_mk h1 h2 h3 h4 h5 h6
  rcases p1 with ⟨c1, e1, rfl⟩ | ⟨c1, f1, g1, g2, g3, g4, e1, rfl⟩
  · rcases p2 with ⟨-, e2, m⟩ | ⟨c2, -⟩
    · exact ⟨e1.trans e2.symm, _, _, _, _, _, _, _, _, _, _, hC, m, hS⟩
    · exact absurd c2 c1
  · rcases p2 with ⟨c2, -⟩ | ⟨-, e2, m⟩
    · exact absurd c1 c2
    · have hP := rC_pass h1 h3 h4 h5 h6 g1 g2 g3 g4
      refine ⟨by rw [e1, e2, cL_mC n hS.1], mo, t, 0, n, pst t P n, K, _, _, _, _, ?_, m, sR_pass t hS⟩
      refine rC_obj hP (fun pa' ka' md' hh => ?_)
      rw [g1] at hh
      have := Option.some.inj hh
      simp only [Sum.inr.injEq, Prod.mk.injEq, List.cons.injEq, Value.ref.injEq, Value.int.injEq] at this
      rw [this.2.2.1, this.2.2.2.1, this.2.2.2.2.1]
theorem J_give (h1 : fc a = some (eR mo pa ka (nI n) nw lt)) (h2 : fc pa = some (eA (ca 0) 300 gp)) (h3 : fc ka = some (eA (ca 1) 20 gk)) (h4 : rp fc gp n P) (h5 : rk fc gk K) (h6 : pa ≠ ka) (hM : rM fm ca b AD th mo n nw lt du g) (hS : sR mo n P K du g) {x : Int32} {t : Int64}
    (p1 : ((∀ j : Nat, j < 20 → x ≠ nI j) ∧ r1 = -101 ∧ fc' = fc) ∨ ∃ j : Nat, j < 20 ∧ x = nI j ∧ ((¬ isT nw t ∧ r1 = -102 ∧ fc' = fc) ∨ (isT nw t ∧ (((kIn (K j) = 0 ∨ kTu (K j) ≠ none) ∧ r1 = -103 ∧ fc' = fc) ∨ ((¬ kIn (K j) = 0 ∧ kTu (K j) = none) ∧ ∃ f1 : wd_M, f1 a = some (eR mo pa ka (nI n) t (lt + nI (cL t P n))) ∧ f1 pa = some (eA (ca 0) 300 gp) ∧ rp f1 gp n (pst t P n) ∧ (∀ q : Nat, q ≠ a → (∀ j : Nat, j < n → q ≠ pAd (P j)) → f1 q = fc q) ∧ ((gvn (pst t P n) (nI j) (kOf (K j)) (kSk (K j)) n = none ∧ r1 = 0 ∧ fc' = f1) ∨ ∃ (b q : Nat) (la : Option Nat), gvn (pst t P n) (nI j) (kOf (K j)) (kSk (K j)) n = some b ∧ b < n ∧ f1 q = none ∧ f1 (pAd (pst t P n b)) = some (eQ (nI (b + 1)) (pst t P n b) la) ∧ r1 = nI (b + 1) ∧ fc' = wd_up (wd_up (wd_up f1 q (eT (nI (b + 1)) (nI j) (kOf (K j)) la (-1))) (pAd (pst t P n b)) (eP (nI (b + 1)) (pDu (pst t P n b)) (pSk (pst t P n b)) (pWa (pst t P n b)) (pAn (pst t P n b)) (pEn (pst t P n b)) (pSw (pst t P n b)) (some q))) (kAd (K j)) (eK (nI j) (kIn (K j)) (kOf (K j)) (kSk (K j)) (some q))))))))
    (p2 : (¬ okK x ∧ r2 = -101 ∧ rM fm' ca b AD 0 mo n nw lt du g) ∨ ∃ j : Nat, j < 20 ∧ x = nI j ∧ ((¬ isT nw t ∧ r2 = -102 ∧ rM fm' ca b AD 0 mo n nw lt du g) ∨ (isT nw t ∧ (((g 9 j = 0 ∨ ¬ nI (hd (g 6) j n) ≤ 0) ∧ r2 = -103 ∧ rM fm' ca b AD 0 mo n nw lt du g) ∨ ((¬ g 9 j = 0 ∧ nI (hd (g 6) j n) ≤ 0) ∧ ((mbs du (fun i => decide (mfr (pG g t du n) i j)) n n = 0 ∧ r2 = 0 ∧ rM fm' ca b AD 0 mo n t (lt + nI (mC t du (g 2) n)) du (pG g t du n)) ∨ ∃ b1 : Nat, mbs du (fun i => decide (mfr (pG g t du n) i j)) n n = b1 + 1 ∧ r2 = nI (b1 + 1) ∧ rM fm' ca b AD 0 mo n t (lt + nI (mC t du (g 2) n)) du (gG (pG g t du n) b1 j))))))) :
    r1 = r2 ∧ JR fc' fm' ca a b := by
  have hC := rC_mk h1 h2 h3 h4 h5 h6
  have hn := hM.2.2.2.2
  rcases p1 with ⟨c1, e1, rfl⟩ | ⟨j, hj, hx, p1⟩
  · rcases p2 with ⟨-, e2, m⟩ | ⟨j', hj', hx', -⟩
    · exact ⟨e1.trans e2.symm, _, _, _, _, _, _, _, _, _, _, hC, m, hS⟩
    · exact absurd hx' (c1 j' hj')
  · rcases p2 with ⟨c2, -⟩ | ⟨j', hj', hx', p2⟩
    · exact absurd (okK_of hj hx) c2
    · have := nI_uniq hj hj' hx hx'
      subst this
      have hcl := hS.2.1 j' hj
      have htu := hd_tu hn (hS.2.2.1 j' hj)
      rcases p1 with ⟨c3, e1, rfl⟩ | ⟨c3, p1⟩
      · rcases p2 with ⟨-, e2, m⟩ | ⟨c4, -⟩
        · exact ⟨e1.trans e2.symm, _, _, _, _, _, _, _, _, _, _, hC, m, hS⟩
        · exact absurd c4 c3
      · rcases p2 with ⟨c4, -⟩ | ⟨-, p2⟩
        · exact absurd c3 c4
        · rcases p1 with ⟨c5, e1, rfl⟩ | ⟨c5, f1, g1, g2, g3, g4, p1⟩
          · rcases p2 with ⟨-, e2, m⟩ | ⟨c6, -⟩
            · exact ⟨e1.trans e2.symm, _, _, _, _, _, _, _, _, _, _, hC, m, hS⟩
            · rcases c5 with z | z
              · exact absurd (hcl.1.symm.trans z) c6.1
              · exact absurd (htu.mpr c6.2) z
          · rcases p2 with ⟨c6, -⟩ | ⟨-, p2⟩
            · rcases c6 with z | z
              · exact absurd (hcl.1.trans z) c5.1
              · exact absurd (htu.mp c5.2) z
            · have hP := rC_pass h1 h3 h4 h5 h6 g1 g2 g3 g4
              have hS1 := sR_pass t hS
              have hcl1 := hS1.2.1 j' hj
              have hF : ∀ i : Nat, i < n → (frP (pst t P n i) (nI j') (kOf (K j')) (kSk (K j')) = true ↔ (fun i => decide (mfr (pG g t du n) i j')) i = true) := fun i hi => by
                rw [hcl1.2.1, hcl1.2.2.1, pR_free (hS1.1 i hi) hj]
                exact (decide_eq_true_iff).symm
              have hbs := best_same hF (fun i hi => (hS1.1 i hi).1)
              have hlt : lt + nI (cL t P n) = lt + nI (mC t du (g 2) n) := by rw [cL_mC n hS.1]
              rw [hlt] at hP
              rcases p1 with ⟨c7, e1, rfl⟩ | ⟨b0, q, la, c7, hb0, hq, hpb, e1, rfl⟩
              · rcases hbs with ⟨-, z2⟩ | ⟨b', -, z1, -⟩
                · rcases p2 with ⟨-, e2, m⟩ | ⟨b1, c8, -⟩
                  · exact ⟨e1.trans e2.symm, _, _, _, _, _, _, _, _, _, _, hP, m, hS1⟩
                  · rw [z2] at c8; omega
                · rw [c7] at z1; cases z1
              · rcases hbs with ⟨z1, -⟩ | ⟨b', hb', z1, z2⟩
                · rw [c7] at z1; cases z1
                · have hbb : b' = b0 := by rw [c7] at z1; exact (Option.some.inj z1).symm
                  subst hbb
                  rcases p2 with ⟨c8, -⟩ | ⟨b1, c8, e2, m⟩
                  · rw [z2] at c8; omega
                  · have hb1 : b1 = b' := by rw [z2] at c8; omega
                    subst hb1
                    have hfr := (gvn_spec (P := pst t P n) (no := nI j') (o := kOf (K j')) (ks := kSk (K j')) n).2 b1 c7
                    have hmf : mfr (pG g t du n) b1 j' := of_decide_eq_true ((hF b1 hb').mp hfr.2.2.1)
                    refine ⟨e1.trans e2.symm, mo, t, _, n, _, _, _, _, _, _, ?_, m, sR_give hS1 hj hb' hmf.1.2 c5.2 q⟩
                    have q1 := rC_new hP (e := eT (nI (b1 + 1)) (nI j') (kOf (K j')) la (-1)) hq
                    obtain ⟨-, la', hpb', hcb⟩ := g3.2.1 b1 hb'
                    have hla : la' = la := by
                      rw [hpb] at hpb'
                      have := Option.some.inj hpb'
                      simp only [Sum.inr.injEq, Prod.mk.injEq, List.cons.injEq, Value.int.injEq, Value.long.injEq] at this
                      have z := this.2.2.2.2.2.2.2.2.1
                      cases la <;> cases la' <;> simp [va_rf] at z ⊢
                      exact z.symm
                    rw [hla] at hcb
                    have q2 := rC_pic q1 hb' (x := setL (pst t P n b1) ((q, nI j', kOf (K j'), -1) :: pL (pst t P n b1))) (la := some q) rfl ⟨rfl, la, wd_us, cx_upN hq hcb⟩
                    exact rC_clerk q2 hj (x := (kAd (K j'), kIn (K j'), kOf (K j'), kSk (K j'), some q)) rfl
theorem J_answer (h1 : fc a = some (eR mo pa ka (nI n) nw lt)) (h2 : fc pa = some (eA (ca 0) 300 gp)) (h3 : fc ka = some (eA (ca 1) 20 gk)) (h4 : rp fc gp n P) (h5 : rk fc gk K) (h6 : pa ≠ ka) (hM : rM fm ca b AD th mo n nw lt du g) (hS : sR mo n P K du g) {x y en : Int32} {t : Int64}
    (p1 : (((∀ j : Nat, j < 20 → x ≠ nI j) ∨ (∀ i : Nat, i < n → y ≠ nI (i + 1))) ∧ r1 = -101 ∧ fc' = fc) ∨ ∃ j i : Nat, j < 20 ∧ i < n ∧ x = nI j ∧ y = nI (i + 1) ∧ ((¬ (wi en 9999 ∧ isT nw t) ∧ r1 = -102 ∧ fc' = fc) ∨ ((wi en 9999 ∧ isT nw t) ∧ (((∀ (q : Nat) (ck to : Int32) (ea : Option Nat) (te : Int32), ¬ (kTu (K j) = some q ∧ fc q = some (eT (nI (i + 1)) ck to ea te))) ∧ r1 = -103 ∧ fc' = fc) ∨ ∃ (q : Nat) (ck to : Int32) (ea : Option Nat) (te : Int32), kTu (K j) = some q ∧ fc q = some (eT (nI (i + 1)) ck to ea te) ∧ ∃ f1 : wd_M, f1 a = some (eR mo pa ka (nI n) t (lt + nI (cL t P n))) ∧ f1 pa = some (eA (ca 0) 300 gp) ∧ rp f1 gp n (pst t P n) ∧ (∀ q : Nat, q ≠ a → (∀ j : Nat, j < n → q ≠ pAd (P j)) → f1 q = fc q) ∧ ∃ la : Option Nat, f1 (pAd (pst t P n i)) = some (eQ (nI (i + 1)) (pst t P n i) la) ∧ r1 = stt (tE (pWa (pst t P n i)) (pAn (pst t P n i) + 1) (pEn (pst t P n i)) (pSw (pst t P n i)) en (hasE en (pL (pst t P n i)))).2.1 (tE (pWa (pst t P n i)) (pAn (pst t P n i) + 1) (pEn (pst t P n i)) (pSw (pst t P n i)) en (hasE en (pL (pst t P n i)))).1 (tk (sE q en (pL (pst t P n i)))) ∧ fc' = wd_up (wd_up (wd_up f1 (kAd (K j)) (eK (nI j) (kIn (K j)) (kOf (K j)) (kSk (K j)) none)) q (eT (nI (i + 1)) ck to ea en)) (pAd (pst t P n i)) (eP (nI (i + 1)) (pDu (pst t P n i)) (pSk (pst t P n i)) (tE (pWa (pst t P n i)) (pAn (pst t P n i) + 1) (pEn (pst t P n i)) (pSw (pst t P n i)) en (hasE en (pL (pst t P n i)))).1 (pAn (pst t P n i) + 1) (tE (pWa (pst t P n i)) (pAn (pst t P n i) + 1) (pEn (pst t P n i)) (pSw (pst t P n i)) en (hasE en (pL (pst t P n i)))).2.1 (tE (pWa (pst t P n i)) (pAn (pst t P n i) + 1) (pEn (pst t P n i)) (pSw (pst t P n i)) en (hasE en (pL (pst t P n i)))).2.2 la)))))
    (p2 : ((¬ okK x ∨ ¬ (¬ y < 1 ∧ ¬ nI n < y)) ∧ r2 = -101 ∧ rM fm' ca b AD 0 mo n nw lt du g) ∨ ∃ j i : Nat, j < 20 ∧ i < n ∧ x = nI j ∧ y = nI (i + 1) ∧ ((¬ (wi en 9999 ∧ isT nw t) ∧ r2 = -102 ∧ rM fm' ca b AD 0 mo n nw lt du g) ∨ ((wi en 9999 ∧ isT nw t) ∧ ((¬ nI (hd (g 6) j n) = nI (i + 1) ∧ r2 = -103 ∧ rM fm' ca b AD 0 mo n nw lt du g) ∨ (nI (hd (g 6) j n) = nI (i + 1) ∧ ∃ G : Nat → Nat → Int32, rM fm' ca b AD 0 mo n t (lt + nI (mC t du (g 2) n)) du G ∧ r2 = mst G i ∧ ((¬ aG g t du n i j en 2 (i + 1) = 0 ∧ G = aG g t du n i j en) ∨ (aG g t du n i j en 2 (i + 1) = 0 ∧ ∃ k : Nat, k ≤ 2 ∧ g 4 (i + 1) = nI k ∧ ((bl (aG g t du n i j en 5) i en k = true ∧ G = tB (aG g t du n i j en) i k en) ∨ (¬ bl (aG g t du n i j en 5) i en k = true ∧ nI k = 2 ∧ G = tC (aG g t du n i j en) i k en) ∨ (¬ bl (aG g t du n i j en 5) i en k = true ∧ ¬ nI k = 2 ∧ G = tA (aG g t du n i j en) i k en))))))))) :
    r1 = r2 ∧ JR fc' fm' ca a b := by
  have hC := rC_mk h1 h2 h3 h4 h5 h6
  have hn := hM.2.2.2.2
  rcases p1 with ⟨c1, e1, rfl⟩ | ⟨j, i, hj, hi, hx, hy, p1⟩
  · rcases p2 with ⟨-, e2, m⟩ | ⟨j', i', hj', hi', hx', hy', -⟩
    · exact ⟨e1.trans e2.symm, _, _, _, _, _, _, _, _, _, _, hC, m, hS⟩
    · rcases c1 with c1 | c1
      · exact absurd hx' (c1 j' hj')
      · exact absurd hy' (c1 i' hi')
  · rcases p2 with ⟨c2, -⟩ | ⟨j', i', hj', hi', hx', hy', p2⟩
    · rcases c2 with c2 | c2
      · exact absurd (okK_of hj hx) c2
      · exact absurd (okN_ex hn hi hy) c2
    · have ej := nI_uniq hj hj' hx hx'
      subst ej
      have ei := nI_uniq1 hn hi hi' hy hy'
      subst ei
      have hh := hS.2.2.1 j' hj
      rcases p1 with ⟨c3, e1, rfl⟩ | ⟨c3, p1⟩
      · rcases p2 with ⟨-, e2, m⟩ | ⟨c4, -⟩
        · exact ⟨e1.trans e2.symm, _, _, _, _, _, _, _, _, _, _, hC, m, hS⟩
        · exact absurd c4 c3
      · rcases p2 with ⟨c4, -⟩ | ⟨-, p2⟩
        · exact absurd c3 c4
        · rcases p1 with ⟨c5, e1, rfl⟩ | ⟨q, ck, to, ea, te, c5, hq, f1, g1, g2, g3, g4, la, hpb, e1, rfl⟩
          · rcases p2 with ⟨-, e2, m⟩ | ⟨c6, -⟩
            · exact ⟨e1.trans e2.symm, _, _, _, _, _, _, _, _, _, _, hC, m, hS⟩
            · exfalso
              rcases hh with ⟨-, k2⟩ | ⟨i0, q, o, k1, k2, k3, k4⟩
              · rw [hd_none n k2, nI_eq (by omega) (by omega)] at c6; omega
              · rw [hd_some n k1 k4, nI_eq (by omega) (by omega)] at c6
                have : i0 = i' := by omega
                subst this
                obtain ⟨er, he⟩ := rp_turnAt h4 k1 k3
                exact c5 q _ _ er _ ⟨k2, he⟩
          · rcases hh with ⟨k1, -⟩ | ⟨i0, q', o, k1, k2, k3, k4⟩
            · rw [c5] at k1; cases k1
            · have hqq : q' = q := by rw [c5] at k2; exact (Option.some.inj k2).symm
              subst hqq
              obtain ⟨er, he⟩ := rp_turnAt h4 k1 k3
              obtain ⟨z1, z2, z3, z4⟩ := eT_inj (Option.some.inj (hq.symm.trans he))
              have hi0 : i0 = i' := by
                rw [nI_eq (by omega) (by omega)] at z1
                omega
              subst hi0
              have hqf := hq_of h4 k1 hq
              rw [z2] at hqf
              rcases p2 with ⟨c6, -⟩ | ⟨-, G, m, e2, hG⟩
              · exact absurd (by rw [hd_some n k1 k4]) c6
              · have hP := rC_pass h1 h3 h4 h5 h6 g1 g2 g3 g4
                have hS1 := sR_pass t hS
                have hlt : lt + nI (cL t P n) = lt + nI (mC t du (g 2) n) := by rw [cL_mC n hS.1]
                rw [hlt] at hP
                have hpl : pL (pst t P n i0) = pL (P i0) := by
                  unfold pst
                  split <;> rfl
                have k4' : ∀ i' : Nat, i' < n → (pG g t du n 6 (20 * i' + j') = 2 ↔ i' = i0) := fun i' hi' => by
                  unfold pG
                  rw [vu_ne (show (6 : Nat) ≠ 2 by decide)]
                  exact k4 i' hi'
                have e4 : pG g t du n 4 = g 4 := by unfold pG; exact vu_ne (by decide)
                have hS2 := sR_answer (q := q') (o := o) (en := en) hS1 hj k1 (by rw [hpl]; exact k3) k4' (by rw [hpl]; exact hqf) c3.1.1 (G := G) (by rw [e4]; exact hG)
                refine ⟨?_, mo, t, _, n, _, _, _, _, _, _, ?_, m, hS2⟩
                · have hp := pR_state (hS2.1 i0 k1)
                  rw [vp_us] at hp
                  rw [e1, e2]
                  exact hp
                · have hqf1 : f1 q' = some (eT (nI (i0 + 1)) ck to ea te) := tu_keep hq h1 h4 g4
                  have q1 := rC_clerk hP hj (x := (kAd (K j'), kIn (K j'), kOf (K j'), kSk (K j'), none)) rfl
                  have hkc : f1 (kAd (K j')) = some (eJ (nI j') (K j')) := (rk_keep h5 h1 h4 g4 j' hj).2
                  have hqf2 : wd_up f1 (kAd (K j')) (eJ (nI j') (kAd (K j'), kIn (K j'), kOf (K j'), kSk (K j'), none)) q' = some (eT (nI (i0 + 1)) ck to ea te) := by
                    rw [wd_un (wd_ne hqf1 hkc (by decide))]; exact hqf1
                  have q2 := rC_turn q1 k1 (x := en) hqf2
                  obtain ⟨-, la', hpb', hcb⟩ := g3.2.1 i0 k1
                  have hla : la' = la := by
                    rw [hpb] at hpb'
                    have := Option.some.inj hpb'
                    simp only [Sum.inr.injEq, Prod.mk.injEq, List.cons.injEq, Value.int.injEq, Value.long.injEq] at this
                    have z := this.2.2.2.2.2.2.2.2.1
                    cases la <;> cases la' <;> simp [va_rf] at z ⊢
                    exact z.symm
                  rw [hla] at hcb
                  have hcx : cx (wd_up (wd_up f1 (kAd (K j')) (eJ (nI j') (kAd (K j'), kIn (K j'), kOf (K j'), kSk (K j'), none))) q' (eT (nI (i0 + 1)) ck to ea en)) (nI (i0 + 1)) (sE q' en (pL (pst t P n i0))) la := cx_entry hqf2 _ _ (cx_upC hkc (by decide) hcb)
                  have q3 := rC_pic q2 k1 (x := xA (pst t P n i0) q' en) (la := la) (by rw [vp_us]; rfl) hcx
                  rw [vp_us, vp_uu] at q3
                  exact q3
end JNT2
end
section
/-! reading calls, the start -/
section JNT3
variable {fc fm fm' : wd_M} {ca : Nat → ClassId} {a b : Nat} {mo : Int32} {nw : Int64} {lt : Int32} {n : Nat} {P : Nat → PT} {K : Nat → KT} {AD : Nat → Nat} {th : Int32} {du : Nat → Int64} {g : Nat → Nat → Int32} {r1 r2 : Int32}
theorem J_settled (hC : rC fc ca a mo nw lt n P K) (hM : rM fm ca b AD th mo n nw lt du g) (hS : sR mo n P K du g) {y : Int32}
    (p1 : (∃ i : Nat, i < n ∧ y = nI (i + 1) ∧ r1 = if pEn (P i) = 0 then -1 else pSw (P i)) ∨ ((∀ i : Nat, i < n → y ≠ nI (i + 1)) ∧ r1 = -101))
    (p2 : (∃ i : Nat, i < n ∧ y = nI (i + 1) ∧ r2 = (if g 2 (i + 1) = 0 then -1 else g 3 (i + 1)) ∧ rM fm' ca b AD 0 mo n nw lt du g) ∨ (¬ (¬ y < 1 ∧ ¬ nI n < y) ∧ r2 = -101 ∧ rM fm' ca b AD 0 mo n nw lt du g)) : r1 = r2 ∧ JR fc fm' ca a b := by
  have hn := hM.2.2.2.2
  rcases p1 with ⟨i, hi, hy, e1⟩ | ⟨c1, e1⟩
  · rcases p2 with ⟨i', hi', hy', e2, m⟩ | ⟨c2, -⟩
    · have := nI_uniq1 hn hi hi' hy hy'
      subst this
      have hp := hS.1 i' hi
      rw [← hp.2.2.1, ← hp.2.2.2.1] at e2
      exact ⟨e1.trans e2.symm, _, _, _, _, _, _, _, _, _, _, hC, m, hS⟩
    · exact absurd (okN_ex hn hi hy) c2
  · rcases p2 with ⟨i', hi', hy', -⟩ | ⟨-, e2, m⟩
    · exact absurd hy' (c1 i' hi')
    · exact ⟨e1.trans e2.symm, _, _, _, _, _, _, _, _, _, _, hC, m, hS⟩
theorem J_state (hC : rC fc ca a mo nw lt n P K) (hM : rM fm ca b AD th mo n nw lt du g) (hS : sR mo n P K du g) {y : Int32}
    (p1 : (∃ i : Nat, i < n ∧ y = nI (i + 1) ∧ r1 = stt (pEn (P i)) (pWa (P i)) (tk (pL (P i)))) ∨ ((∀ i : Nat, i < n → y ≠ nI (i + 1)) ∧ r1 = -101))
    (p2 : (∃ i : Nat, i < n ∧ y = nI (i + 1) ∧ r2 = mst g i ∧ rM fm' ca b AD 0 mo n nw lt du g) ∨ (¬ (¬ y < 1 ∧ ¬ nI n < y) ∧ r2 = -101 ∧ rM fm' ca b AD 0 mo n nw lt du g)) : r1 = r2 ∧ JR fc fm' ca a b := by
  have hn := hM.2.2.2.2
  rcases p1 with ⟨i, hi, hy, e1⟩ | ⟨c1, e1⟩
  · rcases p2 with ⟨i', hi', hy', e2, m⟩ | ⟨c2, -⟩
    · have := nI_uniq1 hn hi hi' hy hy'
      subst this
      rw [pR_state (hS.1 i' hi)] at e1
      exact ⟨e1.trans e2.symm, _, _, _, _, _, _, _, _, _, _, hC, m, hS⟩
    · exact absurd (okN_ex hn hi hy) c2
  · rcases p2 with ⟨i', hi', hy', -⟩ | ⟨-, e2, m⟩
    · exact absurd hy' (c1 i' hi')
    · exact ⟨e1.trans e2.symm, _, _, _, _, _, _, _, _, _, _, hC, m, hS⟩
theorem J_waiting (hC : rC fc ca a mo nw lt n P K) (hS : sR mo n P K du g) (p1 : r1 = nI (cW P n)) (p2 : r2 = nI (oW (g 2) n) ∧ rM fm' ca b AD 0 mo n nw lt du g) : r1 = r2 ∧ JR fc fm' ca a b := by
  refine ⟨?_, _, _, _, _, _, _, _, _, _, _, hC, p2.2, hS⟩
  rw [p1, p2.1, cW_oW n hS.1]
theorem mgB_eq {sd : Int32} {j1 j2 : Nat} (h1 : j1 < 20) (h2 : j2 < 20) : ∀ m : Nat, (∀ i : Nat, i < m → pR (P i) du g i) → mgB (g 8) j1 j2 sd m = (if sd = 1 then agB P (nI j1) (nI j2) m else agA P (nI j1) (nI j2) m) := by
  intro m
  induction m with
  | zero => intro _; split <;> rfl
  | succ m ih =>
    intro h
    have hl := (h m (Nat.lt_succ_self m)).2.2.2.2.1
    have a1 := lR_said hl h1
    have a2 := lR_said hl h2
    have e1 : g 8 (20 * m + j1) < 0 ↔ fndE (nI j1) (pL (P m)) < 0 := by
      rcases a1 with ⟨x, y⟩ | ⟨x, y⟩
      · exact ⟨fun _ => x, fun _ => y⟩
      · rw [y]
    have e2 : g 8 (20 * m + j2) < 0 ↔ fndE (nI j2) (pL (P m)) < 0 := by
      rcases a2 with ⟨x, y⟩ | ⟨x, y⟩
      · exact ⟨fun _ => x, fun _ => y⟩
      · rw [y]
    simp only [mgB, agB, agA]
    rw [ih (fun i hi => h i (by omega))]
    by_cases hb : ¬ fndE (nI j1) (pL (P m)) < 0 ∧ ¬ fndE (nI j2) (pL (P m)) < 0
    · have hb' : ¬ g 8 (20 * m + j1) < 0 ∧ ¬ g 8 (20 * m + j2) < 0 := ⟨fun z => hb.1 (e1.mp z), fun z => hb.2 (e2.mp z)⟩
      have b1 : g 8 (20 * m + j1) = fndE (nI j1) (pL (P m)) := by
        rcases a1 with ⟨x, y⟩ | ⟨x, y⟩
        · exact absurd x hb.1
        · exact y
      have b2 : g 8 (20 * m + j2) = fndE (nI j2) (pL (P m)) := by
        rcases a2 with ⟨x, y⟩ | ⟨x, y⟩
        · exact absurd x hb.2
        · exact y
      by_cases hsd : sd = 1
      · rw [if_pos ⟨hb', Or.inl hsd⟩, if_pos hsd, if_pos hsd, if_pos hb]
      · by_cases heq : fndE (nI j1) (pL (P m)) = fndE (nI j2) (pL (P m))
        · rw [if_pos ⟨hb', Or.inr (by rw [b1, b2]; exact heq)⟩, if_neg hsd, if_neg hsd, if_pos ⟨hb, heq⟩]
        · rw [if_neg (fun z => Or.elim z.2 hsd (fun y => heq (by rw [← b1, ← b2]; exact y))), if_neg hsd, if_neg hsd, if_neg (fun z => heq z.2)]
    · rw [if_neg (fun z => hb ⟨fun y => z.1.1 (e1.mpr y), fun y => z.1.2 (e2.mpr y)⟩)]
      by_cases hsd : sd = 1
      · rw [if_pos hsd, if_pos hsd, if_neg hb]
      · rw [if_neg hsd, if_neg hsd, if_neg (fun z => hb z.1)]
theorem mgB_le {s : Nat → Int32} {x y : Nat} {sd : Int32} : ∀ m : Nat, mgB s x y sd m ≤ m := by
  intro m
  induction m with
  | zero => exact Nat.le_refl _
  | succ m ih => simp only [mgB]; split <;> omega
theorem J_agreement {s1 s2 : Int64} (hC : rC fc ca a mo nw lt n P K) (hM : rM fm ca b AD th mo n nw lt du g) (hS : sR mo n P K du g) {x y sd : Int32} (p1 : s1 = agr P n x y sd)
    (p2 : (¬ (okK x ∧ okK y) ∧ s2 = -101 ∧ rM fm' ca b AD 0 mo n nw lt du g) ∨ ∃ j1 j2 : Nat, j1 < 20 ∧ j2 < 20 ∧ x = nI j1 ∧ y = nI j2 ∧ (((¬ wi sd 1 ∨ nI j1 = nI j2) ∧ s2 = -102 ∧ rM fm' ca b AD 0 mo n nw lt du g) ∨ (wi sd 1 ∧ ¬ nI j1 = nI j2 ∧ s2 = (nI (mgB (g 8) j1 j2 sd n)).toInt64 ∧ rM fm' ca b AD 0 mo n nw lt du g))) : s1 = s2 ∧ JR fc fm' ca a b := by
  have hn := hM.2.2.2.2
  unfold agr at p1
  rcases p2 with ⟨c1, e2, m⟩ | ⟨j1, j2, hj1, hj2, hx, hy, p2⟩
  · rw [if_pos c1] at p1
    exact ⟨p1.trans e2.symm, _, _, _, _, _, _, _, _, _, _, hC, m, hS⟩
  · rw [if_neg (fun z => z ⟨okK_of hj1 hx, okK_of hj2 hy⟩)] at p1
    subst hx
    subst hy
    rcases p2 with ⟨c2, e2, m⟩ | ⟨c2, c3, e2, m⟩
    · rw [if_pos c2] at p1
      exact ⟨p1.trans e2.symm, _, _, _, _, _, _, _, _, _, _, hC, m, hS⟩
    · rw [if_neg (fun z => Or.elim z (fun y => y c2) c3)] at p1
      refine ⟨?_, _, _, _, _, _, _, _, _, _, _, hC, m, hS⟩
      rw [p1, e2, nI_l (by have := mgB_le (s := g 8) (x := j1) (y := j2) (sd := sd) n; omega), mgB_eq hj1 hj2 n hS.1]
      split <;> rfl
theorem hT_of {gp : Nat → Option Nat} (h4 : rp fc gp n P) (hS : sR mo n P K du g) : ∀ j : Nat, j < 20 → ∀ q : Nat, kTu (K j) = some q → ∃ (pn ck to : Int32) (ea : Option Nat) (te : Int32), fc q = some (eT pn ck to ea te) := fun j hj q hq => by
  rcases hS.2.2.1 j hj with ⟨k1, -⟩ | ⟨i, q', o, k1, k2, k3, k4⟩
  · rw [hq] at k1; cases k1
  · have hqq : q' = q := by rw [hq] at k2; exact (Option.some.inj k2).symm
    subst hqq
    obtain ⟨er, he⟩ := rp_turnAt h4 k1 k3
    exact ⟨_, _, _, _, _, he⟩
theorem hA_of (hS : sR mo n P K du g) : ∀ i : Nat, i < n → g 2 (i + 1) = 0 → ∃ k : Nat, k ≤ 2 ∧ g 4 (i + 1) = nI k := fun i hi hz => by
  have hp := hS.1 i hi
  obtain ⟨-, k, hk⟩ := hp.2.2.2.2.2 (hp.2.2.1.trans hz)
  exact ⟨k, hk.1, hk.2.2.1⟩
theorem mx_my (x : Int32) : mx x = my x := by
  unfold mx my
  have e1 : (1 : Int32).toInt = 1 := by decide
  have e2 : (100 : Int32).toInt = 100 := by decide
  by_cases h1 : x < 100
  · rw [if_pos h1]
    rw [Int32.lt_iff_toInt_lt] at h1
    by_cases h2 : 1 < x
    · rw [if_pos h2, if_pos (by rw [Int32.lt_iff_toInt_lt] at h2; rw [Int32.le_iff_toInt_le]; omega), if_pos (by rw [Int32.le_iff_toInt_le]; omega)]
    · rw [if_neg h2]
      by_cases h3 : 1 ≤ x
      · have : x = 1 := by
          rw [← Int32.toInt_inj]
          rw [Int32.lt_iff_toInt_lt] at h2
          rw [Int32.le_iff_toInt_le] at h3
          omega
        rw [this]; rfl
      · rw [if_neg h3]
  · rw [if_neg h1, if_pos (by decide)]
    rw [Int32.lt_iff_toInt_lt] at h1
    rw [if_pos (by rw [Int32.le_iff_toInt_le]; omega)]
    by_cases h4 : x ≤ 100
    · rw [if_pos h4, ← Int32.toInt_inj]
      rw [Int32.le_iff_toInt_le] at h4
      omega
    · rw [if_neg h4]
theorem my_M (x : Int32) : ∃ M : Nat, 1 ≤ M ∧ M ≤ 100 ∧ my x = nI M := by
  unfold my
  by_cases h1 : 1 ≤ x
  · rw [if_pos h1]
    by_cases h2 : x ≤ 100
    · rw [if_pos h2]
      have e1 : (1 : Int32).toInt = 1 := by decide
      have e2 : (100 : Int32).toInt = 100 := by decide
      have h0 : ¬ x < 0 := fun z => by
        have e0 : (0 : Int32).toInt = 0 := by decide
        rw [Int32.lt_iff_toInt_lt] at z
        rw [Int32.le_iff_toInt_le] at h1
        omega
      obtain ⟨k, hk, rfl⟩ := nI_of h0
      rw [Int32.le_iff_toInt_le, nI_toInt hk] at h1 h2
      exact ⟨k, by omega, by omega, rfl⟩
    · rw [if_neg h2]; exact ⟨100, by decide, by decide, rfl⟩
  · rw [if_neg h1]; exact ⟨1, by decide, by decide, rfl⟩
theorem J_init {x : Int32} (p1 : ∃ (pa ka : Nat) (gk : Nat → Option Nat) (K : Nat → KT), fc a = some (eR (mx x) pa ka 0 0 0) ∧ fc pa = some (eA (ca 0) 300 (fun _ => none)) ∧ fc ka = some (eA (ca 1) 20 gk) ∧ rk fc gk K ∧ ∀ j : Nat, j < 20 → kIn (K j) = 0 ∧ kOf (K j) = 0 ∧ kSk (K j) = 0 ∧ kTu (K j) = none)
    (p2 : ∃ (AD : Nat → Nat) (g : Nat → Nat → Int32), rM fm ca b AD 0 (my x) 0 0 0 (fun _ => 0) g ∧ (∀ k : Nat, k ≠ 8 → g k = fun _ => 0) ∧ ∀ j : Nat, j < 6020 → g 8 j = -1) : JR fc fm ca a b := by
  obtain ⟨pa, ka, gk, K, h1, h2, h3, h5, hk⟩ := p1
  obtain ⟨AD, g, m, hg, hg8⟩ := p2
  have h6 : pa ≠ ka := fun z => by
    rw [z, h3] at h2
    have := Option.some.inj h2
    simp at this
  rw [mx_my] at h1
  obtain ⟨M, m1, m2, m3⟩ := my_M x
  refine ⟨my x, 0, 0, 0, fun _ => (0, 0, 0, 0, 0, 0, 0, []), K, AD, 0, _, g, ⟨pa, ka, fun _ => none, gk, h1, h2, h3, ⟨Nat.zero_le _, fun i hi => absurd hi (Nat.not_lt_zero i), fun i _ => rfl⟩, h5, h6⟩, m, fun i hi => absurd hi (Nat.not_lt_zero i), fun j hj => ?_, fun j hj => ?_, fun p _ _ => ?_, fun i _ hi j hj => ?_, M, m1, m2, m3, Nat.zero_le _⟩
  · rw [hg 9 (by decide), hg 10 (by decide), hg 11 (by decide)]
    exact ⟨(hk j hj).1, (hk j hj).2.1, (hk j hj).2.2.1, Or.inl rfl⟩
  · exact Or.inl ⟨(hk j hj).2.2.2, fun i hi => absurd hi (Nat.not_lt_zero i)⟩
  · rw [hg 2 (by decide), hg 3 (by decide), hg 4 (by decide)]
    exact ⟨rfl, rfl, rfl⟩
  · rw [hg 6 (by decide), hg8 _ (by omega)]
    exact ⟨rfl, rfl⟩
end JNT3
end
