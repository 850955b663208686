set_option maxHeartbeats 4000000 in
set_option maxRecDepth 100000 in
/-- the law, from its entry -/
theorem whole_start {p : Program} {e : Env} {s : State} {m : MethodId} {below : List Frame} {meth : Method} {c : Code} (l : Launch) {b L : Nat} {xs : Nat → Int32} (hL : L ≤ 3073) (C0 : lw_At p s m meth c b L xs) : W p l e room_1 s m #[Value.ref b] below meth c s.heap [] 0 0 (lw_Z below #[Value.ref b] s) (entryFrame m ([Value.ref b] : List Value).toArray 4) := by
  obtain ⟨hx, hb, hr, hml, hown, hts0, hX, hbl, hlocks, hgv⟩ := id C0
  have hts : ∀ w ∈ tb, w.before #[Value.ref b] s = true := fun w h => hts0 w (tb_sub h)
  have X : CallFix p m c code 4 s #[Value.ref b] tb R_Law := ⟨hx, hb, hml, hown, hts⟩
  obtain ⟨c0, i0, k0⟩ := u_known (C := R_ClerkRows) (T := F_ClerkRows) (N := 6) (n := 6) hts i_ClerkRows (hts _ ib_ClerkRows)
  obtain ⟨c1, i1, k1⟩ := u_known (C := R_Clerk) (T := F_Clerk) (N := 5) (n := 5) hts i_Clerk (hts _ ib_Clerk)
  obtain ⟨c2, i2, k2⟩ := u_known (C := R_Turn) (T := F_Turn) (N := 5) (n := 5) hts i_Turn (hts _ ib_Turn)
  obtain ⟨c3, i3, k3⟩ := u_known (C := R_Picture) (T := F_Picture) (N := 8) (n := 8) hts i_Picture (hts _ ib_Picture)
  obtain ⟨c4, i4, k4⟩ := u_known (C := R_Model) (T := F_Model) (N := 17) (n := 17) hts i_Model (hts _ ib_Model)
  obtain ⟨dC, dI, hKc⟩ : ∃ (dC : Nat → ClassId) (dI : Nat → Nat → Nat), ∀ (k : Nat) (q : vw_C), classes[k]? = some q → u_Kn s q.1 q.2.1 q.2.2 (dC k) (dI k) := by
    refine ⟨fun k => match k with | 0 => c0 | 1 => c1 | 2 => c2 | 3 => c3 | _ => c4, fun k => match k with | 0 => i0 | 1 => i1 | 2 => i2 | 3 => i3 | _ => i4, ?_⟩
    intro k q hq
    match k, hq with
    | 0, hq => cases hq; exact k0
    | 1, hq => cases hq; exact k1
    | 2, hq => cases hq; exact k2
    | 3, hq => cases hq; exact k3
    | 4, hq => cases hq; exact k4
    | k + 5, hq => simp [classes] at hq
  have ao0 : va_AO "ClerkRows$Picture" s := va_AO.of (hts0 (.arrayOver (.object "ClerkRows$Picture")) (by decide +kernel))
  have ao1 : va_AO "ClerkRows$Clerk" s := va_AO.of (hts0 (.arrayOver (.object "ClerkRows$Clerk")) (by decide +kernel))
  obtain ⟨m0, a0, ka0, x1, x2, x3, x4, x5⟩ := Cond.arrayOver_spec ao0
  obtain ⟨m1, a1, ka1, y1, y2, y3, y4, y5⟩ := Cond.arrayOver_spec ao1
  obtain ⟨a2, ka2, m2, z21, z22, z23⟩ := Cond.arrayClass_spec (hts _ ac_int)
  obtain ⟨a3, ka3, m3, z31, z32, z33⟩ := Cond.arrayClass_spec (hts _ ac_long)
  obtain ⟨a4, ka4, m4, z41, z42, z43⟩ := Cond.arrayClass_spec (hts _ ac_boolean)
  obtain ⟨ca, e0, e1, e2, e3, e4⟩ : ∃ ca : Nat → ClassId, ca 0 = a0 ∧ ca 1 = a1 ∧ ca 2 = a2 ∧ ca 3 = a3 ∧ ca 4 = a4 := ⟨fun k => match k with | 0 => a0 | 1 => a1 | 2 => a2 | 3 => a3 | _ => a4, rfl, rfl, rfl, rfl, rfl⟩
  have hK : va_K (dC, dI) classes (ty ca) s := by
    refine ⟨hKc, fun k q hq => ?_⟩
    match k, hq with
    | 0, hq => cases hq; rw [e0]; exact ⟨fun N z => ⟨fun k h => (by cases h), ka0, x3, m0, x4⟩, ka0, m0, x3, x4, x1, x5⟩
    | 1, hq => cases hq; rw [e1]; exact ⟨fun N z => ⟨fun k h => (by cases h), ka1, y3, m1, y4⟩, ka1, m1, y3, y4, y1, y5⟩
    | 2, hq => cases hq; rw [e2]; exact ⟨fun N z => ⟨fun k h => (by cases h), ka2, z22, m2, z23⟩, z21⟩
    | 3, hq => cases hq; rw [e3]; exact ⟨fun N z => ⟨fun k h => (by cases h), ka3, z32, m3, z33⟩, z31⟩
    | 4, hq => cases hq; rw [e4]; exact ⟨fun N z => ⟨fun k h => (by cases h), ka4, z42, m4, z43⟩, z41⟩
    | k + 5, hq => simp [ty] at hq
  have hj : wd_J (dC, dI) classes (fun q : Nat => s.heap.size ≤ q) s.heap (fun _ => none) (fun _ => none) s.heap [] := ⟨⟨fun a e h => (by cases h), va_S.rf, fun q h => absurd rfl h, fun q h => h⟩, fun a e h => (by cases h), fun q h => absurd rfl h, fun q h => absurd rfl h⟩
  have hl := lv_entry ([.ref b]) (n := 4) (Nat.le_of_ble_eq_true rfl)
  rw [lg_entry_eq]
  generalize (lg_sl ([.ref b]) ++ List.replicate (4 - (lg_sl ([.ref b])).length) Slot.unset).toArray = ls at hl ⊢
  have hl : lv_has ls 4 [(0, .ref b)] := hl
  refine wd_jnew X hK hj (C := R_ClerkRows) (T := F_ClerkRows) (N := 6) (ci := 0) (fs := [.int 0, .null, .null, .int 0, .long 0, .int 0]) i_ClerkRows t_ClerkRows t_ClerkRows_ok cl_Law_7 ib_ClerkRows in_ClerkRows rfl (fun j hj => by rcases (show j = 0 ∨ j = 1 ∨ j = 2 ∨ j = 3 ∨ j = 4 ∨ j = 5 by omega) with rfl | rfl | rfl | rfl | rfl | rfl <;> rfl) (Nat.le_of_ble_eq_true rfl) (Nat.le_of_ble_eq_true rfl) d_Law_law_0 (fun xa fc0 H hxa ef0 hj => ?_)
  have h_xa : fc0 xa = some (.inr (0, [.int 0, .null, .null, .int 0, .long 0, .int 0])) := by rw [ef0]; exact wd_us
  refine lv_dup hx hb d_Law_law_3 rfl ?_
  refine lv_aload_n hx hb d_Law_law_4 rfl (lv_at hl 0 rfl) ?_
  refine lv_iconst (v := 0) hx hb d_Law_law_5 (by decide) ?_
  refine lw_cell X hX hbl hL hj.1.2.1 ⟨(Nat.le_of_ble_eq_true rfl), (Nat.le_of_ble_eq_true rfl)⟩ hl.1 (Nat.le_of_ble_eq_true rfl) d_Law_law_6 ⟨(Nat.le_of_ble_eq_true rfl), (Nat.le_of_ble_eq_true rfl)⟩ ?_
  refine wd_jIA (As := [.int (cv L xs)]) (rest := [.ref xa]) X hK ⟨ao0, ao1⟩ hj (c_ClerkRows_init xa h_xa (cv L xs)) (cw_Law_15 hts rfl rfl ⟨(Nat.le_of_ble_eq_true rfl), (Nat.le_of_ble_eq_true rfl)⟩) rfl hl.1 rfl (Nat.le_of_ble_eq_true rfl) d_Law_law_9 ⟨(Nat.le_of_ble_eq_true rfl), (Nat.le_of_ble_eq_true rfl)⟩ (fun fc1 H locs p1 hj => ?_)
  refine lv_astore_n (lv' := [(1, .ref xa), (0, .ref b)]) hx hb d_Law_law_12 rfl hl (by decide) rfl (fun ls hl => ?_)
  have hj := hj.swap
  refine wd_jnew X hK hj (C := R_Model) (T := F_Model) (N := 17) (ci := 4) (fs := [.int 0, .int 0, .int 0, .null, .null, .null, .null, .null, .null, .null, .null, .null, .null, .null, .null, .long 0, .int 0]) i_Model t_Model t_Model_ok cl_Law_18 ib_Model in_Model rfl (fun j hj => by rcases (show j = 0 ∨ j = 1 ∨ j = 2 ∨ j = 3 ∨ j = 4 ∨ j = 5 ∨ j = 6 ∨ j = 7 ∨ j = 8 ∨ j = 9 ∨ j = 10 ∨ j = 11 ∨ j = 12 ∨ j = 13 ∨ j = 14 ∨ j = 15 ∨ j = 16 by omega) with rfl | rfl | rfl | rfl | rfl | rfl | rfl | rfl | rfl | rfl | rfl | rfl | rfl | rfl | rfl | rfl | rfl <;> rfl) (Nat.le_of_ble_eq_true rfl) (Nat.le_of_ble_eq_true rfl) d_Law_law_13 (fun mb fm0 H hmb efm hj => ?_)
  have h_mb : fm0 mb = some (.inr (4, [.int 0, .int 0, .int 0, .null, .null, .null, .null, .null, .null, .null, .null, .null, .null, .null, .null, .long 0, .int 0])) := by rw [efm]; exact wd_us
  refine lv_dup hx hb d_Law_law_16 rfl ?_
  refine lv_aload_n hx hb d_Law_law_17 rfl (lv_at hl 1 rfl) ?_
  refine lv_iconst (v := 0) hx hb d_Law_law_18 (by decide) ?_
  refine lw_cell X hX hbl hL hj.1.2.1 ⟨(Nat.le_of_ble_eq_true rfl), (Nat.le_of_ble_eq_true rfl)⟩ hl.1 (Nat.le_of_ble_eq_true rfl) d_Law_law_19 ⟨(Nat.le_of_ble_eq_true rfl), (Nat.le_of_ble_eq_true rfl)⟩ ?_
  refine wd_jI (As := [.int (cv L xs)]) (rest := [.ref mb]) X hK hj (c_Model_init mb h_mb (cv L xs)) (cw_Law_20 hts rfl rfl ⟨(Nat.le_of_ble_eq_true rfl), (Nat.le_of_ble_eq_true rfl)⟩) rfl hl.1 rfl (Nat.le_of_ble_eq_true rfl) d_Law_law_22 ⟨(Nat.le_of_ble_eq_true rfl), (Nat.le_of_ble_eq_true rfl)⟩ (fun fm1 H locs p2 hj => ?_)
  refine lv_astore_n (lv' := [(2, .ref mb), (1, .ref xa), (0, .ref b)]) hx hb d_Law_law_25 rfl hl (by decide) rfl (fun ls hl => ?_)
  refine lv_iconst (v := 1) hx hb d_Law_law_26 (by decide) ?_
  refine lv_istore_n (lv' := [(3, .int 1), (2, .ref mb), (1, .ref xa), (0, .ref b)]) hx hb d_Law_law_27 rfl hl (by decide) rfl (fun ls hl => ?_)
  refine W.cs (cells' := 36 + 0) (slots' := 20971 + 8 * 0) rfl rfl ?_
  exact law_loop hL C0 hK 512 0 1 xa mb fc1 fm1 _ _ ls rfl (by omega) (by omega) (J_init p1 p2) hj.swap (lv_sub hl [3, 2, 1, 0] rfl)
