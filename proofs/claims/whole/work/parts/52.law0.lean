/-! the law: its helper, its rows -/
def cv (L : Nat) (xs : Nat → Int32) : Int32 := if L = 0 then 0 else xs 0
abbrev rm_Law_cell : Room := { frames := 0, cells := 0, slots := 0, locals := 0 }
set_option maxHeartbeats 4000000 in
set_option maxRecDepth 100000 in
theorem c_Law_cell {l : Launch} (b L : Nat) (xs : Nat → Int32) (hL : L ≤ 3073) : Met l y_Law_cell (.code y_Law_cell b_Law_cell 2 (some .int) :: tb) rm_Law_cell (va_Pc [.ref b, .int 0] (fun U => va_X b L xs U U.heap)) (vp_Si (fun r => r = cv L xs)) 0 0 (fun _ => False) := by
  refine wd_met (own := R_Law) (by decide) rfl (Nat.le_of_ble_eq_true rfl) ?_
  intro p e s m below meth c X hr hlk _ hX ls hl
  have hx := X.1
  have hb := X.2.1
  have hbl : b < s.heap.size := by
    obtain ⟨scr, h1, -⟩ := hX
    exact (Array.getElem?_eq_some_iff.mp h1).1
  have hS : va_S (fun _ => False) s.heap s.heap [] := va_S.rf
  have hl : lv_has ls 2 [(0, .ref b), (1, .int 0)] := hl
  refine lv_iload_n hx hb d_Law_cell_0 rfl (lv_at hl 1 rfl) ?_
  refine lv_aload_n hx hb d_Law_cell_1 rfl (lv_at hl 0 rfl) ?_
  refine va_slen hx hb hX hbl id hS d_Law_cell_2 ?_
  refine lv_icmp_ge (tgt := 12) hx hb d_Law_cell_3 (by decide) (fun c1 => ?_) (fun c1 => ?_)
  · refine lv_iconst (v := 0) hx hb d_Law_cell_12 (by decide) ?_
    refine wd_ri X hr hlk d_Law_cell_13 ?_
    have h0 : L = 0 := (nI_le0 (by omega)).mp c1
    exact (if_pos h0).symm
  · have h0 : ¬ L = 0 := fun z => c1 ((nI_le0 (by omega)).mpr z)
    refine lv_aload_n hx hb d_Law_cell_6 rfl (lv_at hl 0 rfl) ?_
    refine lv_iload_n hx hb d_Law_cell_7 rfl (lv_at hl 1 rfl) ?_
    refine va_sld hx hb hX hbl id hS (i := 0) (vp_in_nI (n := 0) (by omega) (by omega)) d_Law_cell_8 ?_
    refine lv_goto (tgt := 13) hx hb d_Law_cell_9 (by decide) ?_
    refine wd_ri X hr hlk d_Law_cell_13 ?_
    exact (if_neg h0).symm
section LAWR
variable {p : Program} {l : Launch} {e : Env} {R : Room} {s : State} {m : MethodId} {args : Array Value} {below : List Frame} {meth : Method} {c : Code} {H : Heap} {locs : List Loc} {cells slots : Nat} {Q : State → Prop} {cc : ByteArray} {pc nL : Nat} {ls : Array Slot} {rest st0 : List Value} {own : String} {Ts : List Cond} {b L : Nat} {xs : Nat → Int32}
theorem lw_ld (hx : p.tables.exec = Jvm.exec) (hb : c.code = cc) (hX : va_X b L xs s s.heap) (hbl : b < s.heap.size) (hS : va_S (fun q : Nat => s.heap.size ≤ q) s.heap H locs) {j : Nat} (hj : j < L) (hL : L ≤ 3073) (hdg : decode cc pc = .ok (.iaload, 1))
    (kk : W p l e R s m args below meth c H locs cells slots Q (F0 m (pc + 1) ls (.int (xs j) :: rest))) : W p l e R s m args below meth c H locs cells slots Q (F0 m pc ls (.int (nI j) :: .ref b :: rest)) :=
  va_sld hx hb hX hbl (Nat.not_le.mpr hbl) hS (vp_in_nI hj (by omega)) hdg (by rw [nI_clamp (by omega)]; exact kk)
theorem lw_cell (X : CallFix p m c cc nL s args tb R_Law) (hX : va_X b L xs s s.heap) (hbl : b < s.heap.size) (hL : L ≤ 3073) (hS : va_S (fun q : Nat => s.heap.size ≤ q) s.heap H locs) (hR : rm_Law_cell.frames + 1 ≤ R.frames ∧ 8 + (2 + 11) + rm_Law_cell.locals ≤ R.locals) (hsize : ls.size = nL) (hroom : (rest.map fun v => v.category).sum ≤ 8) (hdg : decode cc pc = .ok (.invokestatic 9, 3)) (hf : cells ≤ R.cells ∧ slots ≤ R.slots)
    (kk : W p l e R s m args below meth c H locs cells slots Q (F0 m (pc + 3) ls (.int (cv L xs) :: rest))) : W p l e R s m args below meth c H locs cells slots Q (F0 m pc ls (.int 0 :: .ref b :: rest)) :=
  vp_callSi (W.runS (g := F0 m pc ls (.int 0 :: .ref b :: rest)) (As := [.ref b, .int 0]) X (c_Law_cell b L xs hL) (cw_Law_9 X.2.2.2.2 rfl rfl hR) ⟨fun a U g mk q => ⟨q.1, va_X.moved (u := U) (U := U.calling g mk a) (Vm.Alike.refl U.vm) q.2⟩, fun U hU hW => ⟨rfl, by show va_X b L xs U U.heap; rw [hU]; exact va_X.kept (va_X.moved hW.alike hX) (hS.2.1 b hbl (Nat.not_le.mpr hbl))⟩⟩ rfl rfl hsize rfl (lv_room hroom) hdg hf) (fun r hr => by rw [hr]; exact kk)
end LAWR
theorem ik (i k : Nat) : nI i + nI k = nI (i + k) := nI_add i k
theorem ik1 (i : Nat) : nI i + 1 = nI (i + 1) := ik i 1
theorem ik2 (i : Nat) : nI i + 2 = nI (i + 2) := ik i 2
theorem ik3 (i : Nat) : nI i + 3 = nI (i + 3) := ik i 3
theorem ik4 (i : Nat) : nI i + 4 = nI (i + 4) := ik i 4
theorem ik5 (i : Nat) : nI i + 5 = nI (i + 5) := ik i 5
theorem ik6 (i : Nat) : nI i + 6 = nI (i + 6) := ik i 6
theorem len_ex {L i : Nat} (hL : L ≤ 3073) (hi : i ≤ 10000) : nI L - 6 < nI i ↔ ¬ i + 6 ≤ L := by
  rw [show (6 : Int32) = nI 6 from rfl, Int32.lt_iff_toInt_lt, pk_sub_toInt (by omega) (by omega), nI_toInt (by omega)]
  omega
