section WDZ
variable {p : Program} {l : Launch} {e : Env} {R : Room} {s : State} {m : MethodId} {args : Array Value} {below : List Frame} {meth : Method} {c : Code} {H : Heap} {locs : List Loc} {cells slots : Nat} {Q : State → Prop}
variable {cc : ByteArray} {pc nL : Nat} {ls : Array Slot} {rest st0 : List Value} {D : va_G} {cl : List vw_C} {A : Nat → Prop} {a : Nat} {tys : List (ClassId × FieldType)} {H0 : Heap} {f : wd_M} {own : String} {Ts : List Cond}
theorem wd_zast (X : CallFix p m c cc nL s args Ts own) (hK : va_K D cl tys s) (hw : wd_I D cl A H0 f H locs) {cA : ClassId} {n : Nat} {g : Nat → Int32} (ha : f a = some (.inl (cA, n, .inl g))) (t0 : Nat) (ht : tys[t0]? = some (cA, .boolean)) {i x : Int32} (hin : vp_in i n) (hdg : decode cc pc = .ok (.bastore, 1))
    (kk : ∀ (f1 : wd_M) (H1 : Heap) (locs1 : List Loc), f1 = wd_up f a (.inl (cA, n, .inl (upd g i.toNatClampNeg (vp_nar .boolean x)))) → wd_I D cl A H0 f1 H1 locs1 → W p l e R s m args below meth c H1 locs1 cells slots Q (F0 m (pc + 1) ls rest)) : W p l e R s m args below meth c H locs cells slots Q (F0 m pc ls (.int x :: .int i :: .ref a :: rest)) := by
  refine W.zast X.1 X.2.1 (hw.1 _ _ ha) ((hK.2 t0 _ ht).1 n (fun j => .int (g j))) (fun q => by cases q) (by show ¬ (i < 0 ∨ (arrV _ _ _).slots.size ≤ _); rw [arrV_size]; exact hin) rfl rfl hdg fun H1 e z oq => ?_
  refine kk _ H1 _ rfl (hw.set ha ?_ z oq)
  show H1[a]? = some (vp_cell _ _)
  rw [e]
  rw [vp_cell_i, vp_cell_i, arrV_store]
  congr 2
  funext q
  by_cases hq : q = i.toNatClampNeg
  · subst hq
    simp [updV, upd, vp_nar]
    try rfl
  · simp [updV, upd, hq]
end WDZ
section WDC2
variable {p : Program} {l : Launch} {e : Env} {R : Room} {s : State} {m : MethodId} {args : Array Value} {below : List Frame} {meth : Method} {c : Code} {H : Heap} {locs : List Loc} {cells slots : Nat} {Q : State → Prop}
variable {cc bytes : ByteArray} {pc nL maxL n index mc ms ci b : Nat} {ls : Array Slot} {As rest st0 fs : List Value} {D : va_G} {cl : List vw_C} {A : Nat → Prop} {tys : List (ClassId × FieldType)} {H0 : Heap} {f : wd_M} {own C : String} {Ts ws : List Cond} {y : MethodName} {ret : Option FieldType} {rm : Room} {q : vw_C}
theorem wd_wl {post : Int64 → wd_M → Prop} {v : Int64} {f1 : wd_M} (X : CallFix p m c cc nL s args Ts own) (hr : meth.sig.returnType = some .long) (hlk : meth.locks = false) (hw : wd_I D cl (wd_A f s.heap.size) s.heap f1 H locs) (hdg : decode cc pc = .ok (.lreturn, 1)) (hp : post v f1) : W p l e R s m args below meth c H locs cells slots (MQ below (va_Ql post (wd_B D cl f s.heap.size) (wd_A f s.heap.size)) args s cells slots (wd_A f s.heap.size)) (F0 m pc ls [.long v]) :=
  W.lret X.1 X.2.1 hr (fun t ht _ => ⟨⟨v, f1, rfl, hp, by rw [ht]; exact hw.1, hw.2.2.1⟩, hw.2.1.F ht⟩) hw.2.1.2.2 hdg hlk
end WDC2
section WDS2
variable {l : Launch} {y : MethodName} {Ts : List Cond} {rm : Room} {cc : ByteArray} {maxL : Nat} {av : List Value} {own : String} {D : va_G} {cl : List vw_C} {tys : List (ClassId × FieldType)} {f : wd_M}
theorem wd_Ql {post : Int64 → wd_M → Prop} {mc ms : Nat} (hy : plainName y.cls = true) (ho : y.cls = own) (hlen : (lg_sl av).length ≤ maxL) {sz : Nat}
    (body : ∀ (p : Program) (e : Env) (s : State) (m : MethodId) (args : Array Value) (below : List Frame) (meth : Method) (c : Code) (Q : State → Prop), CallFix p m c cc maxL s args Ts own → va_K D cl tys s → wd_I D cl (wd_A f s.heap.size) s.heap f s.heap [] → (∀ (pc : Nat) (ls : Array Slot) (v : Int64) (f1 : wd_M) (H : Heap) (locs : List Loc), decode cc pc = .ok (.lreturn, 1) → wd_I D cl (wd_A f s.heap.size) s.heap f1 H locs → post v f1 → W p l e rm s m args below meth c H locs mc ms Q (F0 m pc ls [.long v])) → ∀ ls : Array Slot, lv_has ls maxL (lv_args 0 av) → W p l e rm s m args below meth c s.heap [] 0 0 Q (F0 m 0 ls [])) :
    Met l y (.code y cc maxL (some .long) :: Ts) rm (va_Pc av (wd_preZ D cl tys f sz)) (va_Ql post (wd_B D cl f sz) (wd_A f sz)) mc ms (wd_A f sz) := by
  refine wd_met hy ho hlen fun p e s m below meth c X hr hlk _ hpre ls hl => ?_
  obtain ⟨rfl, hP, hK⟩ := hpre
  exact body p e s m _ below meth c _ X hK (wd_I.start hP) (fun _ _ _ _ _ _ hd hw hp => wd_wl X hr hlk hw hd hp) ls hl
end WDS2
section WDJ2
variable {p : Program} {l : Launch} {e : Env} {R : Room} {s : State} {m : MethodId} {args : Array Value} {below : List Frame} {meth : Method} {c : Code} {H : Heap} {locs : List Loc} {cells slots : Nat} {Q : State → Prop}
variable {cc bytes : ByteArray} {pc nL maxL n index mc ms ci b : Nat} {ls : Array Slot} {As rest st0 fs : List Value} {D : va_G} {cl : List vw_C} {A : Nat → Prop} {tys : List (ClassId × FieldType)} {H0 : Heap} {f g : wd_M} {own C : String} {Ts ws : List Cond} {y : MethodName} {ret : Option FieldType} {rm : Room} {q : vw_C}
theorem wd_jvl {post : Int64 → wd_M → Prop} (X : CallFix p m c cc nL s args Ts own) (hK : va_K D cl tys s) (hj : wd_J D cl A H0 f g H locs) (hM : Met l y ws rm (va_Pc (.ref b :: As) (wd_preZ D cl tys f H.size)) (va_Ql post (wd_B D cl f H.size) (wd_A f H.size)) mc ms (wd_A f H.size)) (cw : CallW R s args own C index y bytes maxL ret ws rm mc ms n) (hbf : f b = some (.inr (ci, fs))) (hc : cl[ci]? = some q) (hq : q.1 = C) (hn : As.length = n) (hsize : ls.size = nL) (hst : st0 = As.reverse ++ .ref b :: rest) (hroom : (rest.map fun v => v.category).sum ≤ 8) (hdg : decode cc pc = .ok (.invokevirtual index, 3)) (hf : cells + mc ≤ R.cells ∧ slots + ms ≤ R.slots)
    (kk : ∀ (r : Int64) (f1 : wd_M) (H1 : Heap) (locs1 : List Loc), post r f1 → wd_J D cl A H0 f1 g H1 locs1 → W p l e R s m args below meth c H1 locs1 (cells + mc) (slots + ms) Q (F0 m (pc + 3) ls (.long r :: rest))) : W p l e R s m args below meth c H locs cells slots Q (F0 m pc ls st0) :=
  va_calll (va_runV (g := F0 m pc ls st0) X hM cw (wd_preVZ hK hj.1 hbf hc hq) rfl hn hsize hst (lv_room hroom) hdg hf) hj.1.2.1 (fun _ _ h => hj.1.sub h) (fun _ h => hj.1.sub h) (fun r u t H1 locs1 ht _ hp hB _ hk hS => kk r u H1 locs1 hp (hj.after (by rw [← ht]; exact hB.1) hB.2 hS hk))
end WDJ2
