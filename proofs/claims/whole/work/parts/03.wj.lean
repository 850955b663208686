/-! two sides in one heap -/
def wd_J (D : va_G) (cl : List vw_C) (A : Nat → Prop) (H0 : Heap) (f g : wd_M) (H : Heap) (locs : List Loc) : Prop := wd_I D cl A H0 f H locs ∧ wd_P D cl g H ∧ (∀ q : Nat, g q ≠ none → f q = none) ∧ ∀ q : Nat, g q ≠ none → A q
section WDJ
variable {p : Program} {l : Launch} {e : Env} {R : Room} {s : State} {m : MethodId} {args : Array Value} {below : List Frame} {meth : Method} {c : Code} {H : Heap} {locs : List Loc} {cells slots : Nat} {Q : State → Prop}
variable {cc bytes : ByteArray} {pc nL maxL n index mc ms ci b : Nat} {ls : Array Slot} {As rest st0 fs : List Value} {D : va_G} {cl : List vw_C} {A : Nat → Prop} {tys : List (ClassId × FieldType)} {H0 : Heap} {f g : wd_M} {own C : String} {Ts ws : List Cond} {y : MethodName} {ret : Option FieldType} {rm : Room} {q : vw_C}
theorem wd_J.swap (h : wd_J D cl A H0 f g H locs) : wd_J D cl A H0 g f H locs := by
  obtain ⟨⟨h1, h2, h3, h4⟩, h5, h6, h7⟩ := h
  refine ⟨⟨h5, h2, h7, h4⟩, h1, fun q hq => ?_, h3⟩
  cases hg : g q with
  | none => rfl
  | some e => exact absurd (h6 q (by rw [hg]; exact fun z => by cases z)) hq
theorem wd_J.after (h : wd_J D cl A H0 f g H locs) {f1 : wd_M} {H1 : Heap} {locs1 : List Loc} (hP : wd_P D cl f1 H1) (hd : ∀ q : Nat, f1 q ≠ none → wd_A f H.size q) (hS : va_S A H0 H1 locs1) (hk : ∀ q : Nat, q < H.size → ¬ wd_A f H.size q → H1[q]? = H[q]?) : wd_J D cl A H0 f1 g H1 locs1 := by
  obtain ⟨hw, h5, h6, h7⟩ := h
  have hlt : ∀ q : Nat, g q ≠ none → q < H.size := fun q hq => by
    cases hg : g q with
    | none => exact absurd hg hq
    | some e => exact h5.lt hg
  have hn : ∀ q : Nat, g q ≠ none → ¬ wd_A f H.size q := fun q hq ha => by
    rcases ha with ha | ha
    · exact ha (h6 q hq)
    · exact absurd (hlt q hq) (by omega)
  refine ⟨⟨hP, hS, fun q hq => hw.sub (hd q hq), hw.2.2.2⟩, fun q e hq => ?_, fun q hq => ?_, h7⟩
  · have hq0 : g q ≠ none := by rw [hq]; exact fun z => by cases z
    exact (h5 q e hq).kept (hk q (hlt q hq0) (hn q hq0))
  · cases hf : f1 q with
    | none => rfl
    | some e => exact absurd (hd q (by rw [hf]; exact fun z => by cases z)) (hn q hq)
theorem wd_jvi {post : Int32 → wd_M → Prop} (X : CallFix p m c cc nL s args Ts own) (hK : va_K D cl tys s) (hj : wd_J D cl A H0 f g H locs) (hM : Met l y ws rm (va_Pc (.ref b :: As) (wd_preZ D cl tys f H.size)) (va_Qi post (wd_B D cl f H.size) (wd_A f H.size)) mc ms (wd_A f H.size)) (cw : CallW R s args own C index y bytes maxL ret ws rm mc ms n) (hbf : f b = some (.inr (ci, fs))) (hc : cl[ci]? = some q) (hq : q.1 = C) (hn : As.length = n) (hsize : ls.size = nL) (hst : st0 = As.reverse ++ .ref b :: rest) (hroom : (rest.map fun v => v.category).sum ≤ 8) (hdg : decode cc pc = .ok (.invokevirtual index, 3)) (hf : cells + mc ≤ R.cells ∧ slots + ms ≤ R.slots)
    (kk : ∀ (r : Int32) (f1 : wd_M) (H1 : Heap) (locs1 : List Loc), post r f1 → wd_J D cl A H0 f1 g H1 locs1 → W p l e R s m args below meth c H1 locs1 (cells + mc) (slots + ms) Q (F0 m (pc + 3) ls (.int r :: rest))) : W p l e R s m args below meth c H locs cells slots Q (F0 m pc ls st0) :=
  va_calli (va_runV (g := F0 m pc ls st0) X hM cw (wd_preVZ hK hj.1 hbf hc hq) rfl hn hsize hst (lv_room hroom) hdg hf) hj.1.2.1 (fun _ _ h => hj.1.sub h) (fun _ h => hj.1.sub h) (fun r u t H1 locs1 ht _ hp hB _ hk hS => kk r u H1 locs1 hp (hj.after (by rw [← ht]; exact hB.1) hB.2 hS hk))
theorem wd_jI {post : wd_M → Prop} (X : CallFix p m c cc nL s args Ts own) (hK : va_K D cl tys s) (hj : wd_J D cl A H0 f g H locs) (hM : Met l y ws rm (va_Pc (.ref b :: As) (wd_preZ D cl tys f H.size)) (va_Qv post (wd_B D cl f H.size) (wd_A f H.size)) mc ms (wd_A f H.size)) (cw : CallB R s args own index y bytes maxL none ws rm mc ms n ∧ y.name = "<init>" ∧ (Cond.instanceMethod y).before args s = true) (hn : As.length = n) (hsize : ls.size = nL) (hst : st0 = As.reverse ++ .ref b :: rest) (hroom : (rest.map fun v => v.category).sum ≤ 8) (hdg : decode cc pc = .ok (.invokespecial index, 3)) (hf : cells + mc ≤ R.cells ∧ slots + ms ≤ R.slots)
    (kk : ∀ (f1 : wd_M) (H1 : Heap) (locs1 : List Loc), post f1 → wd_J D cl A H0 f1 g H1 locs1 → W p l e R s m args below meth c H1 locs1 (cells + mc) (slots + ms) Q (F0 m (pc + 3) ls rest)) : W p l e R s m args below meth c H locs cells slots Q (F0 m pc ls st0) :=
  va_callv (va_runI (g := F0 m pc ls st0) X hM cw (wd_preSZ hK hj.1) rfl hn hsize hst (lv_room hroom) hdg hf) hj.1.2.1 (fun _ _ h => hj.1.sub h) (fun _ h => hj.1.sub h) (fun u t H1 locs1 ht _ hp hB _ hk hS => kk u H1 locs1 hp (hj.after (by rw [← ht]; exact hB.1) hB.2 hS hk))
theorem wd_jIA {C1 C2 : String} {post : wd_M → Prop} (X : CallFix p m c cc nL s args Ts own) (hK : va_K D cl tys s) (hao : wd_ao C1 C2 s) (hj : wd_J D cl A H0 f g H locs) (hM : Met l y ws rm (va_Pc (.ref b :: As) (wd_preA C1 C2 D cl tys f H.size)) (va_Qv post (wd_B D cl f H.size) (wd_A f H.size)) mc ms (wd_A f H.size)) (cw : CallB R s args own index y bytes maxL none ws rm mc ms n ∧ y.name = "<init>" ∧ (Cond.instanceMethod y).before args s = true) (hn : As.length = n) (hsize : ls.size = nL) (hst : st0 = As.reverse ++ .ref b :: rest) (hroom : (rest.map fun v => v.category).sum ≤ 8) (hdg : decode cc pc = .ok (.invokespecial index, 3)) (hf : cells + mc ≤ R.cells ∧ slots + ms ≤ R.slots)
    (kk : ∀ (f1 : wd_M) (H1 : Heap) (locs1 : List Loc), post f1 → wd_J D cl A H0 f1 g H1 locs1 → W p l e R s m args below meth c H1 locs1 (cells + mc) (slots + ms) Q (F0 m (pc + 3) ls rest)) : W p l e R s m args below meth c H locs cells slots Q (F0 m pc ls st0) :=
  va_callv (va_runI (g := F0 m pc ls st0) X hM cw ⟨wd_blindA, fun U hU hW => ⟨rfl, ⟨va_AO.moved hW.alike hao.1, va_AO.moved hW.alike hao.2⟩, by rw [hU], by rw [hU]; exact hj.1.1, va_K.moved hW.alike hK⟩⟩ rfl hn hsize hst (lv_room hroom) hdg hf) hj.1.2.1 (fun _ _ h => hj.1.sub h) (fun _ h => hj.1.sub h) (fun u t H1 locs1 ht _ hp hB _ hk hS => kk u H1 locs1 hp (hj.after (by rw [← ht]; exact hB.1) hB.2 hS hk))
theorem wd_jnew (X : CallFix p m c cc nL s args Ts own) (hK : va_K D cl tys s) (hj : wd_J D cl A H0 f g H locs) {T : u_T} {N : Nat} (hin : ∀ w ∈ u_ws C T N, w ∈ Ts) (ty : Nat → FieldType) (hty : ∀ k, k < N → parseFieldDescriptor (T k).2.2.1 = some (ty k)) (hcl : Cond.classLink own index C ∈ Ts) (hinst : Cond.instantiable C N ∈ Ts) (hini : Cond.initialized C ∈ Ts) (hc : cl[ci]? = some (C, T, N)) (hfs : ∀ j, j < N → defaultValue (ty j) = vp_V fs j) (hcells : cells + 1 ≤ R.cells) (hslots : slots + N ≤ R.slots) (hdg : decode cc pc = .ok (.new index, 3))
    (kk : ∀ (q : Nat) (f1 : wd_M) (H1 : Heap), f q = none → f1 = wd_up f q (.inr (ci, fs)) → wd_J D cl A H0 f1 g H1 locs → W p l e R s m args below meth c H1 locs (cells + 1) (slots + N) Q (F0 m (pc + 3) ls (.ref q :: rest))) : W p l e R s m args below meth c H locs cells slots Q (F0 m pc ls rest) := by
  have hKn := hK.1 ci _ hc
  obtain ⟨hexec, hb, hml, hown, hts⟩ := X
  refine W.newcK hexec hb hown (hts _ hcl) (hts _ hinst) (hts _ hini) rfl hdg hcells hslots hKn.2.1 rfl fun H1 kC hkC e1 z1 o1 => ?_
  have hw1 := hj.1.push (e := .inr (ci, fs)) ⟨_, hc, (u_born ty hts hin hKn hkC e1 hty).to hfs⟩ z1 o1
  refine kk H.size _ H1 (hj.1.1.fresh (Nat.le_refl _)) rfl (hj.after hw1.1 (fun q hq => ?_) hw1.2.1 (fun q hq _ => o1 q hq))
  by_cases hqs : q = H.size
  · exact Or.inr (Nat.le_of_eq hqs.symm)
  · rw [wd_un hqs] at hq
    exact Or.inl hq
end WDJ
