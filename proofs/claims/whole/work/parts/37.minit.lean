abbrev rm_Model_init : Room := { frames := 1, cells := 12, slots := 20528, locals := 12 }
set_option maxHeartbeats 4000000 in
set_option maxRecDepth 100000 in
theorem c_Model_init {l : Launch} {D : va_G} {ca : Nat → ClassId} {f : wd_M} {sz : Nat} (b : Nat) (h_b : f b = some (.inr (4, [.int 0, .int 0, .int 0, .null, .null, .null, .null, .null, .null, .null, .null, .null, .null, .null, .null, .long 0, .int 0]))) (x : Int32) : Met l y_Model_init (.code y_Model_init b_Model_init 3 none :: tb) rm_Model_init (va_Pc [.ref b, .int x] (wd_preZ D classes (ty ca) f sz)) (va_Qv (fun f' => ∃ (AD : Nat → Nat) (g : Nat → Nat → Int32), rM f' ca b AD 0 (my x) 0 0 0 (fun _ => 0) g ∧ (∀ k : Nat, k ≠ 8 → g k = fun _ => 0) ∧ ∀ j : Nat, j < 6020 → g 8 j = -1) (wd_B D classes f sz) (wd_A f sz)) 12 20528 (wd_A f sz) := by
  refine wd_Qv (own := R_Model) (by decide) rfl (Nat.le_of_ble_eq_true rfl) ?_
  intro p e s m args below meth c Q X hK hnm hw ret ls hl
  have hx := X.1
  have hb := X.2.1
  have hown := X.2.2.2.1
  have hts := X.2.2.2.2
  have hl : lv_has ls 3 [(0, .ref b), (1, .int x)] := hl
  refine lv_aload_n hx hb d_Model_init_0 rfl (lv_at hl 0 rfl) ?_
  refine wd_obj X ml_Model_1 im_obj cd_obj hl.1 d_Model_init_1 (Nat.le_of_ble_eq_true rfl) (Nat.le_of_ble_eq_true rfl) ?_
  refine lv_aload_n hx hb d_Model_init_4 rfl (lv_at hl 0 rfl) ?_
  refine lv_sipush (v := 301) hx hb d_Model_init_5 (by decide) ?_
  refine wd_newa X hK hw (ty := .long) rfl ac_long 3 rfl (fun h => h) (N' := 301) (a0 := (301, .inr (.inl (fun _ => 0)))) rfl (by decide) (by decide) (by decide) (Nat.le_of_ble_eq_true rfl) (Nat.le_of_ble_eq_true rfl) d_Model_init_8 (fun q0 f1 H eq0 hq0 ef1 hw => ?_)
  have h_b : f1 b = some (.inr (4, [.int 0, .int 0, .int 0, .null, .null, .null, .null, .null, .null, .null, .null, .null, .null, .null, .null, .long 0, .int 0])) := by rw [ef1, wd_un (wd_neF h_b hq0)]; exact h_b
  have h_q0 : f1 q0 = some (.inl (ca 3, 301, .inr (.inl (fun _ => 0)))) := by rw [ef1]; exact wd_us
  refine fp_Model_7 X hK hw hnm h_b rfl rfl d_Model_init_10 (fun f2 H locs ef2 hw => ?_)
  have h_q0 : f2 q0 = some (.inl (ca 3, 301, .inr (.inl (fun _ => 0)))) := by rw [ef2, wd_un (Ne.symm (wd_neA h_b h_q0))]; exact h_q0
  have h_b : f2 b = some (.inr (4, [.int 0, .int 0, .int 0, .ref q0, .null, .null, .null, .null, .null, .null, .null, .null, .null, .null, .null, .long 0, .int 0])) := by rw [ef2]; exact wd_us
  refine lv_aload_n hx hb d_Model_init_13 rfl (lv_at hl 0 rfl) ?_
  refine lv_sipush (v := 301) hx hb d_Model_init_14 (by decide) ?_
  have lx1 := hw.1.lt h_q0
  refine wd_newa X hK hw (ty := .int) rfl ac_int 2 rfl (fun h => h) (N' := 301) (a0 := (301, .inl (fun _ => 0))) rfl (by decide) (by decide) (by decide) (Nat.le_of_ble_eq_true rfl) (Nat.le_of_ble_eq_true rfl) d_Model_init_17 (fun q1 f3 H eq1 hq1 ef3 hw => ?_)
  have lt1 : q0 < q1 := by rw [eq1]; exact lx1
  have h_b : f3 b = some (.inr (4, [.int 0, .int 0, .int 0, .ref q0, .null, .null, .null, .null, .null, .null, .null, .null, .null, .null, .null, .long 0, .int 0])) := by rw [ef3, wd_un (wd_neF h_b hq1)]; exact h_b
  have h_q0 : f3 q0 = some (.inl (ca 3, 301, .inr (.inl (fun _ => 0)))) := by rw [ef3, wd_un (wd_neF h_q0 hq1)]; exact h_q0
  have h_q1 : f3 q1 = some (.inl (ca 2, 301, .inl (fun _ => 0))) := by rw [ef3]; exact wd_us
  refine fp_Model_13 X hK hw hnm h_b rfl rfl d_Model_init_19 (fun f4 H locs ef4 hw => ?_)
  have h_q0 : f4 q0 = some (.inl (ca 3, 301, .inr (.inl (fun _ => 0)))) := by rw [ef4, wd_un (Ne.symm (wd_neA h_b h_q0))]; exact h_q0
  have h_q1 : f4 q1 = some (.inl (ca 2, 301, .inl (fun _ => 0))) := by rw [ef4, wd_un (Ne.symm (wd_neA h_b h_q1))]; exact h_q1
  have h_b : f4 b = some (.inr (4, [.int 0, .int 0, .int 0, .ref q0, .ref q1, .null, .null, .null, .null, .null, .null, .null, .null, .null, .null, .long 0, .int 0])) := by rw [ef4]; exact wd_us
  refine lv_aload_n hx hb d_Model_init_22 rfl (lv_at hl 0 rfl) ?_
  refine lv_sipush (v := 301) hx hb d_Model_init_23 (by decide) ?_
  have lx2 := hw.1.lt h_q1
  refine wd_newa X hK hw (ty := .int) rfl ac_int 2 rfl (fun h => h) (N' := 301) (a0 := (301, .inl (fun _ => 0))) rfl (by decide) (by decide) (by decide) (Nat.le_of_ble_eq_true rfl) (Nat.le_of_ble_eq_true rfl) d_Model_init_26 (fun q2 f5 H eq2 hq2 ef5 hw => ?_)
  have lt2 : q1 < q2 := by rw [eq2]; exact lx2
  have h_b : f5 b = some (.inr (4, [.int 0, .int 0, .int 0, .ref q0, .ref q1, .null, .null, .null, .null, .null, .null, .null, .null, .null, .null, .long 0, .int 0])) := by rw [ef5, wd_un (wd_neF h_b hq2)]; exact h_b
  have h_q0 : f5 q0 = some (.inl (ca 3, 301, .inr (.inl (fun _ => 0)))) := by rw [ef5, wd_un (wd_neF h_q0 hq2)]; exact h_q0
  have h_q1 : f5 q1 = some (.inl (ca 2, 301, .inl (fun _ => 0))) := by rw [ef5, wd_un (wd_neF h_q1 hq2)]; exact h_q1
  have h_q2 : f5 q2 = some (.inl (ca 2, 301, .inl (fun _ => 0))) := by rw [ef5]; exact wd_us
  refine fp_Model_17 X hK hw hnm h_b rfl rfl d_Model_init_28 (fun f6 H locs ef6 hw => ?_)
  have h_q0 : f6 q0 = some (.inl (ca 3, 301, .inr (.inl (fun _ => 0)))) := by rw [ef6, wd_un (Ne.symm (wd_neA h_b h_q0))]; exact h_q0
  have h_q1 : f6 q1 = some (.inl (ca 2, 301, .inl (fun _ => 0))) := by rw [ef6, wd_un (Ne.symm (wd_neA h_b h_q1))]; exact h_q1
  have h_q2 : f6 q2 = some (.inl (ca 2, 301, .inl (fun _ => 0))) := by rw [ef6, wd_un (Ne.symm (wd_neA h_b h_q2))]; exact h_q2
  have h_b : f6 b = some (.inr (4, [.int 0, .int 0, .int 0, .ref q0, .ref q1, .ref q2, .null, .null, .null, .null, .null, .null, .null, .null, .null, .long 0, .int 0])) := by rw [ef6]; exact wd_us
  refine lv_aload_n hx hb d_Model_init_31 rfl (lv_at hl 0 rfl) ?_
  refine lv_sipush (v := 301) hx hb d_Model_init_32 (by decide) ?_
  have lx3 := hw.1.lt h_q2
  refine wd_newa X hK hw (ty := .int) rfl ac_int 2 rfl (fun h => h) (N' := 301) (a0 := (301, .inl (fun _ => 0))) rfl (by decide) (by decide) (by decide) (Nat.le_of_ble_eq_true rfl) (Nat.le_of_ble_eq_true rfl) d_Model_init_35 (fun q3 f7 H eq3 hq3 ef7 hw => ?_)
  have lt3 : q2 < q3 := by rw [eq3]; exact lx3
  have h_b : f7 b = some (.inr (4, [.int 0, .int 0, .int 0, .ref q0, .ref q1, .ref q2, .null, .null, .null, .null, .null, .null, .null, .null, .null, .long 0, .int 0])) := by rw [ef7, wd_un (wd_neF h_b hq3)]; exact h_b
  have h_q0 : f7 q0 = some (.inl (ca 3, 301, .inr (.inl (fun _ => 0)))) := by rw [ef7, wd_un (wd_neF h_q0 hq3)]; exact h_q0
  have h_q1 : f7 q1 = some (.inl (ca 2, 301, .inl (fun _ => 0))) := by rw [ef7, wd_un (wd_neF h_q1 hq3)]; exact h_q1
  have h_q2 : f7 q2 = some (.inl (ca 2, 301, .inl (fun _ => 0))) := by rw [ef7, wd_un (wd_neF h_q2 hq3)]; exact h_q2
  have h_q3 : f7 q3 = some (.inl (ca 2, 301, .inl (fun _ => 0))) := by rw [ef7]; exact wd_us
  refine fp_Model_20 X hK hw hnm h_b rfl rfl d_Model_init_37 (fun f8 H locs ef8 hw => ?_)
  have h_q0 : f8 q0 = some (.inl (ca 3, 301, .inr (.inl (fun _ => 0)))) := by rw [ef8, wd_un (Ne.symm (wd_neA h_b h_q0))]; exact h_q0
  have h_q1 : f8 q1 = some (.inl (ca 2, 301, .inl (fun _ => 0))) := by rw [ef8, wd_un (Ne.symm (wd_neA h_b h_q1))]; exact h_q1
  have h_q2 : f8 q2 = some (.inl (ca 2, 301, .inl (fun _ => 0))) := by rw [ef8, wd_un (Ne.symm (wd_neA h_b h_q2))]; exact h_q2
  have h_q3 : f8 q3 = some (.inl (ca 2, 301, .inl (fun _ => 0))) := by rw [ef8, wd_un (Ne.symm (wd_neA h_b h_q3))]; exact h_q3
  have h_b : f8 b = some (.inr (4, [.int 0, .int 0, .int 0, .ref q0, .ref q1, .ref q2, .ref q3, .null, .null, .null, .null, .null, .null, .null, .null, .long 0, .int 0])) := by rw [ef8]; exact wd_us
  refine lv_aload_n hx hb d_Model_init_40 rfl (lv_at hl 0 rfl) ?_
  refine lv_sipush (v := 301) hx hb d_Model_init_41 (by decide) ?_
  have lx4 := hw.1.lt h_q3
  refine wd_newa X hK hw (ty := .int) rfl ac_int 2 rfl (fun h => h) (N' := 301) (a0 := (301, .inl (fun _ => 0))) rfl (by decide) (by decide) (by decide) (Nat.le_of_ble_eq_true rfl) (Nat.le_of_ble_eq_true rfl) d_Model_init_44 (fun q4 f9 H eq4 hq4 ef9 hw => ?_)
  have lt4 : q3 < q4 := by rw [eq4]; exact lx4
  have h_b : f9 b = some (.inr (4, [.int 0, .int 0, .int 0, .ref q0, .ref q1, .ref q2, .ref q3, .null, .null, .null, .null, .null, .null, .null, .null, .long 0, .int 0])) := by rw [ef9, wd_un (wd_neF h_b hq4)]; exact h_b
  have h_q0 : f9 q0 = some (.inl (ca 3, 301, .inr (.inl (fun _ => 0)))) := by rw [ef9, wd_un (wd_neF h_q0 hq4)]; exact h_q0
  have h_q1 : f9 q1 = some (.inl (ca 2, 301, .inl (fun _ => 0))) := by rw [ef9, wd_un (wd_neF h_q1 hq4)]; exact h_q1
  have h_q2 : f9 q2 = some (.inl (ca 2, 301, .inl (fun _ => 0))) := by rw [ef9, wd_un (wd_neF h_q2 hq4)]; exact h_q2
  have h_q3 : f9 q3 = some (.inl (ca 2, 301, .inl (fun _ => 0))) := by rw [ef9, wd_un (wd_neF h_q3 hq4)]; exact h_q3
  have h_q4 : f9 q4 = some (.inl (ca 2, 301, .inl (fun _ => 0))) := by rw [ef9]; exact wd_us
  refine fp_Model_23 X hK hw hnm h_b rfl rfl d_Model_init_46 (fun f10 H locs ef10 hw => ?_)
  have h_q0 : f10 q0 = some (.inl (ca 3, 301, .inr (.inl (fun _ => 0)))) := by rw [ef10, wd_un (Ne.symm (wd_neA h_b h_q0))]; exact h_q0
  have h_q1 : f10 q1 = some (.inl (ca 2, 301, .inl (fun _ => 0))) := by rw [ef10, wd_un (Ne.symm (wd_neA h_b h_q1))]; exact h_q1
  have h_q2 : f10 q2 = some (.inl (ca 2, 301, .inl (fun _ => 0))) := by rw [ef10, wd_un (Ne.symm (wd_neA h_b h_q2))]; exact h_q2
  have h_q3 : f10 q3 = some (.inl (ca 2, 301, .inl (fun _ => 0))) := by rw [ef10, wd_un (Ne.symm (wd_neA h_b h_q3))]; exact h_q3
  have h_q4 : f10 q4 = some (.inl (ca 2, 301, .inl (fun _ => 0))) := by rw [ef10, wd_un (Ne.symm (wd_neA h_b h_q4))]; exact h_q4
  have h_b : f10 b = some (.inr (4, [.int 0, .int 0, .int 0, .ref q0, .ref q1, .ref q2, .ref q3, .ref q4, .null, .null, .null, .null, .null, .null, .null, .long 0, .int 0])) := by rw [ef10]; exact wd_us
  refine lv_aload_n hx hb d_Model_init_49 rfl (lv_at hl 0 rfl) ?_
  refine lv_sipush (v := 903) hx hb d_Model_init_50 (by decide) ?_
  have lx5 := hw.1.lt h_q4
  refine wd_newa X hK hw (ty := .int) rfl ac_int 2 rfl (fun h => h) (N' := 903) (a0 := (903, .inl (fun _ => 0))) rfl (by decide) (by decide) (by decide) (Nat.le_of_ble_eq_true rfl) (Nat.le_of_ble_eq_true rfl) d_Model_init_53 (fun q5 f11 H eq5 hq5 ef11 hw => ?_)
  have lt5 : q4 < q5 := by rw [eq5]; exact lx5
  have h_b : f11 b = some (.inr (4, [.int 0, .int 0, .int 0, .ref q0, .ref q1, .ref q2, .ref q3, .ref q4, .null, .null, .null, .null, .null, .null, .null, .long 0, .int 0])) := by rw [ef11, wd_un (wd_neF h_b hq5)]; exact h_b
  have h_q0 : f11 q0 = some (.inl (ca 3, 301, .inr (.inl (fun _ => 0)))) := by rw [ef11, wd_un (wd_neF h_q0 hq5)]; exact h_q0
  have h_q1 : f11 q1 = some (.inl (ca 2, 301, .inl (fun _ => 0))) := by rw [ef11, wd_un (wd_neF h_q1 hq5)]; exact h_q1
  have h_q2 : f11 q2 = some (.inl (ca 2, 301, .inl (fun _ => 0))) := by rw [ef11, wd_un (wd_neF h_q2 hq5)]; exact h_q2
  have h_q3 : f11 q3 = some (.inl (ca 2, 301, .inl (fun _ => 0))) := by rw [ef11, wd_un (wd_neF h_q3 hq5)]; exact h_q3
  have h_q4 : f11 q4 = some (.inl (ca 2, 301, .inl (fun _ => 0))) := by rw [ef11, wd_un (wd_neF h_q4 hq5)]; exact h_q4
  have h_q5 : f11 q5 = some (.inl (ca 2, 903, .inl (fun _ => 0))) := by rw [ef11]; exact wd_us
  refine fp_Model_26 X hK hw hnm h_b rfl rfl d_Model_init_55 (fun f12 H locs ef12 hw => ?_)
  have h_q0 : f12 q0 = some (.inl (ca 3, 301, .inr (.inl (fun _ => 0)))) := by rw [ef12, wd_un (Ne.symm (wd_neA h_b h_q0))]; exact h_q0
  have h_q1 : f12 q1 = some (.inl (ca 2, 301, .inl (fun _ => 0))) := by rw [ef12, wd_un (Ne.symm (wd_neA h_b h_q1))]; exact h_q1
  have h_q2 : f12 q2 = some (.inl (ca 2, 301, .inl (fun _ => 0))) := by rw [ef12, wd_un (Ne.symm (wd_neA h_b h_q2))]; exact h_q2
  have h_q3 : f12 q3 = some (.inl (ca 2, 301, .inl (fun _ => 0))) := by rw [ef12, wd_un (Ne.symm (wd_neA h_b h_q3))]; exact h_q3
  have h_q4 : f12 q4 = some (.inl (ca 2, 301, .inl (fun _ => 0))) := by rw [ef12, wd_un (Ne.symm (wd_neA h_b h_q4))]; exact h_q4
  have h_q5 : f12 q5 = some (.inl (ca 2, 903, .inl (fun _ => 0))) := by rw [ef12, wd_un (Ne.symm (wd_neA h_b h_q5))]; exact h_q5
  have h_b : f12 b = some (.inr (4, [.int 0, .int 0, .int 0, .ref q0, .ref q1, .ref q2, .ref q3, .ref q4, .ref q5, .null, .null, .null, .null, .null, .null, .long 0, .int 0])) := by rw [ef12]; exact wd_us
  refine lv_aload_n hx hb d_Model_init_58 rfl (lv_at hl 0 rfl) ?_
  refine lv_sipush (v := 6020) hx hb d_Model_init_59 (by decide) ?_
  have lx6 := hw.1.lt h_q5
  refine wd_newa X hK hw (ty := .int) rfl ac_int 2 rfl (fun h => h) (N' := 6020) (a0 := (6020, .inl (fun _ => 0))) rfl (by decide) (by decide) (by decide) (Nat.le_of_ble_eq_true rfl) (Nat.le_of_ble_eq_true rfl) d_Model_init_62 (fun q6 f13 H eq6 hq6 ef13 hw => ?_)
  have lt6 : q5 < q6 := by rw [eq6]; exact lx6
  have h_b : f13 b = some (.inr (4, [.int 0, .int 0, .int 0, .ref q0, .ref q1, .ref q2, .ref q3, .ref q4, .ref q5, .null, .null, .null, .null, .null, .null, .long 0, .int 0])) := by rw [ef13, wd_un (wd_neF h_b hq6)]; exact h_b
  have h_q0 : f13 q0 = some (.inl (ca 3, 301, .inr (.inl (fun _ => 0)))) := by rw [ef13, wd_un (wd_neF h_q0 hq6)]; exact h_q0
  have h_q1 : f13 q1 = some (.inl (ca 2, 301, .inl (fun _ => 0))) := by rw [ef13, wd_un (wd_neF h_q1 hq6)]; exact h_q1
  have h_q2 : f13 q2 = some (.inl (ca 2, 301, .inl (fun _ => 0))) := by rw [ef13, wd_un (wd_neF h_q2 hq6)]; exact h_q2
  have h_q3 : f13 q3 = some (.inl (ca 2, 301, .inl (fun _ => 0))) := by rw [ef13, wd_un (wd_neF h_q3 hq6)]; exact h_q3
  have h_q4 : f13 q4 = some (.inl (ca 2, 301, .inl (fun _ => 0))) := by rw [ef13, wd_un (wd_neF h_q4 hq6)]; exact h_q4
  have h_q5 : f13 q5 = some (.inl (ca 2, 903, .inl (fun _ => 0))) := by rw [ef13, wd_un (wd_neF h_q5 hq6)]; exact h_q5
  have h_q6 : f13 q6 = some (.inl (ca 2, 6020, .inl (fun _ => 0))) := by rw [ef13]; exact wd_us
  refine fp_Model_29 X hK hw hnm h_b rfl rfl d_Model_init_64 (fun f14 H locs ef14 hw => ?_)
  have h_q0 : f14 q0 = some (.inl (ca 3, 301, .inr (.inl (fun _ => 0)))) := by rw [ef14, wd_un (Ne.symm (wd_neA h_b h_q0))]; exact h_q0
  have h_q1 : f14 q1 = some (.inl (ca 2, 301, .inl (fun _ => 0))) := by rw [ef14, wd_un (Ne.symm (wd_neA h_b h_q1))]; exact h_q1
  have h_q2 : f14 q2 = some (.inl (ca 2, 301, .inl (fun _ => 0))) := by rw [ef14, wd_un (Ne.symm (wd_neA h_b h_q2))]; exact h_q2
  have h_q3 : f14 q3 = some (.inl (ca 2, 301, .inl (fun _ => 0))) := by rw [ef14, wd_un (Ne.symm (wd_neA h_b h_q3))]; exact h_q3
  have h_q4 : f14 q4 = some (.inl (ca 2, 301, .inl (fun _ => 0))) := by rw [ef14, wd_un (Ne.symm (wd_neA h_b h_q4))]; exact h_q4
  have h_q5 : f14 q5 = some (.inl (ca 2, 903, .inl (fun _ => 0))) := by rw [ef14, wd_un (Ne.symm (wd_neA h_b h_q5))]; exact h_q5
  have h_q6 : f14 q6 = some (.inl (ca 2, 6020, .inl (fun _ => 0))) := by rw [ef14, wd_un (Ne.symm (wd_neA h_b h_q6))]; exact h_q6
  have h_b : f14 b = some (.inr (4, [.int 0, .int 0, .int 0, .ref q0, .ref q1, .ref q2, .ref q3, .ref q4, .ref q5, .ref q6, .null, .null, .null, .null, .null, .long 0, .int 0])) := by rw [ef14]; exact wd_us
  refine lv_aload_n hx hb d_Model_init_67 rfl (lv_at hl 0 rfl) ?_
  refine lv_sipush (v := 6020) hx hb d_Model_init_68 (by decide) ?_
  have lx7 := hw.1.lt h_q6
  refine wd_newa X hK hw (ty := .int) rfl ac_int 2 rfl (fun h => h) (N' := 6020) (a0 := (6020, .inl (fun _ => 0))) rfl (by decide) (by decide) (by decide) (Nat.le_of_ble_eq_true rfl) (Nat.le_of_ble_eq_true rfl) d_Model_init_71 (fun q7 f15 H eq7 hq7 ef15 hw => ?_)
  have lt7 : q6 < q7 := by rw [eq7]; exact lx7
  have h_b : f15 b = some (.inr (4, [.int 0, .int 0, .int 0, .ref q0, .ref q1, .ref q2, .ref q3, .ref q4, .ref q5, .ref q6, .null, .null, .null, .null, .null, .long 0, .int 0])) := by rw [ef15, wd_un (wd_neF h_b hq7)]; exact h_b
  have h_q0 : f15 q0 = some (.inl (ca 3, 301, .inr (.inl (fun _ => 0)))) := by rw [ef15, wd_un (wd_neF h_q0 hq7)]; exact h_q0
  have h_q1 : f15 q1 = some (.inl (ca 2, 301, .inl (fun _ => 0))) := by rw [ef15, wd_un (wd_neF h_q1 hq7)]; exact h_q1
  have h_q2 : f15 q2 = some (.inl (ca 2, 301, .inl (fun _ => 0))) := by rw [ef15, wd_un (wd_neF h_q2 hq7)]; exact h_q2
  have h_q3 : f15 q3 = some (.inl (ca 2, 301, .inl (fun _ => 0))) := by rw [ef15, wd_un (wd_neF h_q3 hq7)]; exact h_q3
  have h_q4 : f15 q4 = some (.inl (ca 2, 301, .inl (fun _ => 0))) := by rw [ef15, wd_un (wd_neF h_q4 hq7)]; exact h_q4
  have h_q5 : f15 q5 = some (.inl (ca 2, 903, .inl (fun _ => 0))) := by rw [ef15, wd_un (wd_neF h_q5 hq7)]; exact h_q5
  have h_q6 : f15 q6 = some (.inl (ca 2, 6020, .inl (fun _ => 0))) := by rw [ef15, wd_un (wd_neF h_q6 hq7)]; exact h_q6
  have h_q7 : f15 q7 = some (.inl (ca 2, 6020, .inl (fun _ => 0))) := by rw [ef15]; exact wd_us
  refine fp_Model_32 X hK hw hnm h_b rfl rfl d_Model_init_73 (fun f16 H locs ef16 hw => ?_)
  have h_q0 : f16 q0 = some (.inl (ca 3, 301, .inr (.inl (fun _ => 0)))) := by rw [ef16, wd_un (Ne.symm (wd_neA h_b h_q0))]; exact h_q0
  have h_q1 : f16 q1 = some (.inl (ca 2, 301, .inl (fun _ => 0))) := by rw [ef16, wd_un (Ne.symm (wd_neA h_b h_q1))]; exact h_q1
  have h_q2 : f16 q2 = some (.inl (ca 2, 301, .inl (fun _ => 0))) := by rw [ef16, wd_un (Ne.symm (wd_neA h_b h_q2))]; exact h_q2
  have h_q3 : f16 q3 = some (.inl (ca 2, 301, .inl (fun _ => 0))) := by rw [ef16, wd_un (Ne.symm (wd_neA h_b h_q3))]; exact h_q3
  have h_q4 : f16 q4 = some (.inl (ca 2, 301, .inl (fun _ => 0))) := by rw [ef16, wd_un (Ne.symm (wd_neA h_b h_q4))]; exact h_q4
  have h_q5 : f16 q5 = some (.inl (ca 2, 903, .inl (fun _ => 0))) := by rw [ef16, wd_un (Ne.symm (wd_neA h_b h_q5))]; exact h_q5
  have h_q6 : f16 q6 = some (.inl (ca 2, 6020, .inl (fun _ => 0))) := by rw [ef16, wd_un (Ne.symm (wd_neA h_b h_q6))]; exact h_q6
  have h_q7 : f16 q7 = some (.inl (ca 2, 6020, .inl (fun _ => 0))) := by rw [ef16, wd_un (Ne.symm (wd_neA h_b h_q7))]; exact h_q7
  have h_b : f16 b = some (.inr (4, [.int 0, .int 0, .int 0, .ref q0, .ref q1, .ref q2, .ref q3, .ref q4, .ref q5, .ref q6, .ref q7, .null, .null, .null, .null, .long 0, .int 0])) := by rw [ef16]; exact wd_us
  refine lv_aload_n hx hb d_Model_init_76 rfl (lv_at hl 0 rfl) ?_
  refine lv_sipush (v := 6020) hx hb d_Model_init_77 (by decide) ?_
  have lx8 := hw.1.lt h_q7
  refine wd_newa X hK hw (ty := .int) rfl ac_int 2 rfl (fun h => h) (N' := 6020) (a0 := (6020, .inl (fun _ => 0))) rfl (by decide) (by decide) (by decide) (Nat.le_of_ble_eq_true rfl) (Nat.le_of_ble_eq_true rfl) d_Model_init_80 (fun q8 f17 H eq8 hq8 ef17 hw => ?_)
  have lt8 : q7 < q8 := by rw [eq8]; exact lx8
  have h_b : f17 b = some (.inr (4, [.int 0, .int 0, .int 0, .ref q0, .ref q1, .ref q2, .ref q3, .ref q4, .ref q5, .ref q6, .ref q7, .null, .null, .null, .null, .long 0, .int 0])) := by rw [ef17, wd_un (wd_neF h_b hq8)]; exact h_b
  have h_q0 : f17 q0 = some (.inl (ca 3, 301, .inr (.inl (fun _ => 0)))) := by rw [ef17, wd_un (wd_neF h_q0 hq8)]; exact h_q0
  have h_q1 : f17 q1 = some (.inl (ca 2, 301, .inl (fun _ => 0))) := by rw [ef17, wd_un (wd_neF h_q1 hq8)]; exact h_q1
  have h_q2 : f17 q2 = some (.inl (ca 2, 301, .inl (fun _ => 0))) := by rw [ef17, wd_un (wd_neF h_q2 hq8)]; exact h_q2
  have h_q3 : f17 q3 = some (.inl (ca 2, 301, .inl (fun _ => 0))) := by rw [ef17, wd_un (wd_neF h_q3 hq8)]; exact h_q3
  have h_q4 : f17 q4 = some (.inl (ca 2, 301, .inl (fun _ => 0))) := by rw [ef17, wd_un (wd_neF h_q4 hq8)]; exact h_q4
  have h_q5 : f17 q5 = some (.inl (ca 2, 903, .inl (fun _ => 0))) := by rw [ef17, wd_un (wd_neF h_q5 hq8)]; exact h_q5
  have h_q6 : f17 q6 = some (.inl (ca 2, 6020, .inl (fun _ => 0))) := by rw [ef17, wd_un (wd_neF h_q6 hq8)]; exact h_q6
  have h_q7 : f17 q7 = some (.inl (ca 2, 6020, .inl (fun _ => 0))) := by rw [ef17, wd_un (wd_neF h_q7 hq8)]; exact h_q7
  have h_q8 : f17 q8 = some (.inl (ca 2, 6020, .inl (fun _ => 0))) := by rw [ef17]; exact wd_us
  refine fp_Model_35 X hK hw hnm h_b rfl rfl d_Model_init_82 (fun f18 H locs ef18 hw => ?_)
  have h_q0 : f18 q0 = some (.inl (ca 3, 301, .inr (.inl (fun _ => 0)))) := by rw [ef18, wd_un (Ne.symm (wd_neA h_b h_q0))]; exact h_q0
  have h_q1 : f18 q1 = some (.inl (ca 2, 301, .inl (fun _ => 0))) := by rw [ef18, wd_un (Ne.symm (wd_neA h_b h_q1))]; exact h_q1
  have h_q2 : f18 q2 = some (.inl (ca 2, 301, .inl (fun _ => 0))) := by rw [ef18, wd_un (Ne.symm (wd_neA h_b h_q2))]; exact h_q2
  have h_q3 : f18 q3 = some (.inl (ca 2, 301, .inl (fun _ => 0))) := by rw [ef18, wd_un (Ne.symm (wd_neA h_b h_q3))]; exact h_q3
  have h_q4 : f18 q4 = some (.inl (ca 2, 301, .inl (fun _ => 0))) := by rw [ef18, wd_un (Ne.symm (wd_neA h_b h_q4))]; exact h_q4
  have h_q5 : f18 q5 = some (.inl (ca 2, 903, .inl (fun _ => 0))) := by rw [ef18, wd_un (Ne.symm (wd_neA h_b h_q5))]; exact h_q5
  have h_q6 : f18 q6 = some (.inl (ca 2, 6020, .inl (fun _ => 0))) := by rw [ef18, wd_un (Ne.symm (wd_neA h_b h_q6))]; exact h_q6
  have h_q7 : f18 q7 = some (.inl (ca 2, 6020, .inl (fun _ => 0))) := by rw [ef18, wd_un (Ne.symm (wd_neA h_b h_q7))]; exact h_q7
  have h_q8 : f18 q8 = some (.inl (ca 2, 6020, .inl (fun _ => 0))) := by rw [ef18, wd_un (Ne.symm (wd_neA h_b h_q8))]; exact h_q8
  have h_b : f18 b = some (.inr (4, [.int 0, .int 0, .int 0, .ref q0, .ref q1, .ref q2, .ref q3, .ref q4, .ref q5, .ref q6, .ref q7, .ref q8, .null, .null, .null, .long 0, .int 0])) := by rw [ef18]; exact wd_us
  refine lv_aload_n hx hb d_Model_init_85 rfl (lv_at hl 0 rfl) ?_
  refine lv_bipush (v := 20) hx hb d_Model_init_86 (by decide) ?_
  have lx9 := hw.1.lt h_q8
  refine wd_newa X hK hw (ty := .boolean) rfl ac_boolean 4 rfl (fun h => h) (N' := 20) (a0 := (20, .inl (fun _ => 0))) rfl (by decide) (by decide) (by decide) (Nat.le_of_ble_eq_true rfl) (Nat.le_of_ble_eq_true rfl) d_Model_init_88 (fun q9 f19 H eq9 hq9 ef19 hw => ?_)
  have lt9 : q8 < q9 := by rw [eq9]; exact lx9
  have h_b : f19 b = some (.inr (4, [.int 0, .int 0, .int 0, .ref q0, .ref q1, .ref q2, .ref q3, .ref q4, .ref q5, .ref q6, .ref q7, .ref q8, .null, .null, .null, .long 0, .int 0])) := by rw [ef19, wd_un (wd_neF h_b hq9)]; exact h_b
  have h_q0 : f19 q0 = some (.inl (ca 3, 301, .inr (.inl (fun _ => 0)))) := by rw [ef19, wd_un (wd_neF h_q0 hq9)]; exact h_q0
  have h_q1 : f19 q1 = some (.inl (ca 2, 301, .inl (fun _ => 0))) := by rw [ef19, wd_un (wd_neF h_q1 hq9)]; exact h_q1
  have h_q2 : f19 q2 = some (.inl (ca 2, 301, .inl (fun _ => 0))) := by rw [ef19, wd_un (wd_neF h_q2 hq9)]; exact h_q2
  have h_q3 : f19 q3 = some (.inl (ca 2, 301, .inl (fun _ => 0))) := by rw [ef19, wd_un (wd_neF h_q3 hq9)]; exact h_q3
  have h_q4 : f19 q4 = some (.inl (ca 2, 301, .inl (fun _ => 0))) := by rw [ef19, wd_un (wd_neF h_q4 hq9)]; exact h_q4
  have h_q5 : f19 q5 = some (.inl (ca 2, 903, .inl (fun _ => 0))) := by rw [ef19, wd_un (wd_neF h_q5 hq9)]; exact h_q5
  have h_q6 : f19 q6 = some (.inl (ca 2, 6020, .inl (fun _ => 0))) := by rw [ef19, wd_un (wd_neF h_q6 hq9)]; exact h_q6
  have h_q7 : f19 q7 = some (.inl (ca 2, 6020, .inl (fun _ => 0))) := by rw [ef19, wd_un (wd_neF h_q7 hq9)]; exact h_q7
  have h_q8 : f19 q8 = some (.inl (ca 2, 6020, .inl (fun _ => 0))) := by rw [ef19, wd_un (wd_neF h_q8 hq9)]; exact h_q8
  have h_q9 : f19 q9 = some (.inl (ca 4, 20, .inl (fun _ => 0))) := by rw [ef19]; exact wd_us
  refine fp_Model_38 X hK hw hnm h_b rfl rfl d_Model_init_90 (fun f20 H locs ef20 hw => ?_)
  have h_q0 : f20 q0 = some (.inl (ca 3, 301, .inr (.inl (fun _ => 0)))) := by rw [ef20, wd_un (Ne.symm (wd_neA h_b h_q0))]; exact h_q0
  have h_q1 : f20 q1 = some (.inl (ca 2, 301, .inl (fun _ => 0))) := by rw [ef20, wd_un (Ne.symm (wd_neA h_b h_q1))]; exact h_q1
  have h_q2 : f20 q2 = some (.inl (ca 2, 301, .inl (fun _ => 0))) := by rw [ef20, wd_un (Ne.symm (wd_neA h_b h_q2))]; exact h_q2
  have h_q3 : f20 q3 = some (.inl (ca 2, 301, .inl (fun _ => 0))) := by rw [ef20, wd_un (Ne.symm (wd_neA h_b h_q3))]; exact h_q3
  have h_q4 : f20 q4 = some (.inl (ca 2, 301, .inl (fun _ => 0))) := by rw [ef20, wd_un (Ne.symm (wd_neA h_b h_q4))]; exact h_q4
  have h_q5 : f20 q5 = some (.inl (ca 2, 903, .inl (fun _ => 0))) := by rw [ef20, wd_un (Ne.symm (wd_neA h_b h_q5))]; exact h_q5
  have h_q6 : f20 q6 = some (.inl (ca 2, 6020, .inl (fun _ => 0))) := by rw [ef20, wd_un (Ne.symm (wd_neA h_b h_q6))]; exact h_q6
  have h_q7 : f20 q7 = some (.inl (ca 2, 6020, .inl (fun _ => 0))) := by rw [ef20, wd_un (Ne.symm (wd_neA h_b h_q7))]; exact h_q7
  have h_q8 : f20 q8 = some (.inl (ca 2, 6020, .inl (fun _ => 0))) := by rw [ef20, wd_un (Ne.symm (wd_neA h_b h_q8))]; exact h_q8
  have h_q9 : f20 q9 = some (.inl (ca 4, 20, .inl (fun _ => 0))) := by rw [ef20, wd_un (Ne.symm (wd_neA h_b h_q9))]; exact h_q9
  have h_b : f20 b = some (.inr (4, [.int 0, .int 0, .int 0, .ref q0, .ref q1, .ref q2, .ref q3, .ref q4, .ref q5, .ref q6, .ref q7, .ref q8, .ref q9, .null, .null, .long 0, .int 0])) := by rw [ef20]; exact wd_us
  refine lv_aload_n hx hb d_Model_init_93 rfl (lv_at hl 0 rfl) ?_
  refine lv_bipush (v := 20) hx hb d_Model_init_94 (by decide) ?_
  have lx10 := hw.1.lt h_q9
  refine wd_newa X hK hw (ty := .int) rfl ac_int 2 rfl (fun h => h) (N' := 20) (a0 := (20, .inl (fun _ => 0))) rfl (by decide) (by decide) (by decide) (Nat.le_of_ble_eq_true rfl) (Nat.le_of_ble_eq_true rfl) d_Model_init_96 (fun q10 f21 H eq10 hq10 ef21 hw => ?_)
  have lt10 : q9 < q10 := by rw [eq10]; exact lx10
  have h_b : f21 b = some (.inr (4, [.int 0, .int 0, .int 0, .ref q0, .ref q1, .ref q2, .ref q3, .ref q4, .ref q5, .ref q6, .ref q7, .ref q8, .ref q9, .null, .null, .long 0, .int 0])) := by rw [ef21, wd_un (wd_neF h_b hq10)]; exact h_b
  have h_q0 : f21 q0 = some (.inl (ca 3, 301, .inr (.inl (fun _ => 0)))) := by rw [ef21, wd_un (wd_neF h_q0 hq10)]; exact h_q0
  have h_q1 : f21 q1 = some (.inl (ca 2, 301, .inl (fun _ => 0))) := by rw [ef21, wd_un (wd_neF h_q1 hq10)]; exact h_q1
  have h_q2 : f21 q2 = some (.inl (ca 2, 301, .inl (fun _ => 0))) := by rw [ef21, wd_un (wd_neF h_q2 hq10)]; exact h_q2
  have h_q3 : f21 q3 = some (.inl (ca 2, 301, .inl (fun _ => 0))) := by rw [ef21, wd_un (wd_neF h_q3 hq10)]; exact h_q3
  have h_q4 : f21 q4 = some (.inl (ca 2, 301, .inl (fun _ => 0))) := by rw [ef21, wd_un (wd_neF h_q4 hq10)]; exact h_q4
  have h_q5 : f21 q5 = some (.inl (ca 2, 903, .inl (fun _ => 0))) := by rw [ef21, wd_un (wd_neF h_q5 hq10)]; exact h_q5
  have h_q6 : f21 q6 = some (.inl (ca 2, 6020, .inl (fun _ => 0))) := by rw [ef21, wd_un (wd_neF h_q6 hq10)]; exact h_q6
  have h_q7 : f21 q7 = some (.inl (ca 2, 6020, .inl (fun _ => 0))) := by rw [ef21, wd_un (wd_neF h_q7 hq10)]; exact h_q7
  have h_q8 : f21 q8 = some (.inl (ca 2, 6020, .inl (fun _ => 0))) := by rw [ef21, wd_un (wd_neF h_q8 hq10)]; exact h_q8
  have h_q9 : f21 q9 = some (.inl (ca 4, 20, .inl (fun _ => 0))) := by rw [ef21, wd_un (wd_neF h_q9 hq10)]; exact h_q9
  have h_q10 : f21 q10 = some (.inl (ca 2, 20, .inl (fun _ => 0))) := by rw [ef21]; exact wd_us
  refine fp_Model_42 X hK hw hnm h_b rfl rfl d_Model_init_98 (fun f22 H locs ef22 hw => ?_)
  have h_q0 : f22 q0 = some (.inl (ca 3, 301, .inr (.inl (fun _ => 0)))) := by rw [ef22, wd_un (Ne.symm (wd_neA h_b h_q0))]; exact h_q0
  have h_q1 : f22 q1 = some (.inl (ca 2, 301, .inl (fun _ => 0))) := by rw [ef22, wd_un (Ne.symm (wd_neA h_b h_q1))]; exact h_q1
  have h_q2 : f22 q2 = some (.inl (ca 2, 301, .inl (fun _ => 0))) := by rw [ef22, wd_un (Ne.symm (wd_neA h_b h_q2))]; exact h_q2
  have h_q3 : f22 q3 = some (.inl (ca 2, 301, .inl (fun _ => 0))) := by rw [ef22, wd_un (Ne.symm (wd_neA h_b h_q3))]; exact h_q3
  have h_q4 : f22 q4 = some (.inl (ca 2, 301, .inl (fun _ => 0))) := by rw [ef22, wd_un (Ne.symm (wd_neA h_b h_q4))]; exact h_q4
  have h_q5 : f22 q5 = some (.inl (ca 2, 903, .inl (fun _ => 0))) := by rw [ef22, wd_un (Ne.symm (wd_neA h_b h_q5))]; exact h_q5
  have h_q6 : f22 q6 = some (.inl (ca 2, 6020, .inl (fun _ => 0))) := by rw [ef22, wd_un (Ne.symm (wd_neA h_b h_q6))]; exact h_q6
  have h_q7 : f22 q7 = some (.inl (ca 2, 6020, .inl (fun _ => 0))) := by rw [ef22, wd_un (Ne.symm (wd_neA h_b h_q7))]; exact h_q7
  have h_q8 : f22 q8 = some (.inl (ca 2, 6020, .inl (fun _ => 0))) := by rw [ef22, wd_un (Ne.symm (wd_neA h_b h_q8))]; exact h_q8
  have h_q9 : f22 q9 = some (.inl (ca 4, 20, .inl (fun _ => 0))) := by rw [ef22, wd_un (Ne.symm (wd_neA h_b h_q9))]; exact h_q9
  have h_q10 : f22 q10 = some (.inl (ca 2, 20, .inl (fun _ => 0))) := by rw [ef22, wd_un (Ne.symm (wd_neA h_b h_q10))]; exact h_q10
  have h_b : f22 b = some (.inr (4, [.int 0, .int 0, .int 0, .ref q0, .ref q1, .ref q2, .ref q3, .ref q4, .ref q5, .ref q6, .ref q7, .ref q8, .ref q9, .ref q10, .null, .long 0, .int 0])) := by rw [ef22]; exact wd_us
  refine lv_aload_n hx hb d_Model_init_101 rfl (lv_at hl 0 rfl) ?_
  refine lv_bipush (v := 20) hx hb d_Model_init_102 (by decide) ?_
  have lx11 := hw.1.lt h_q10
  refine wd_newa X hK hw (ty := .int) rfl ac_int 2 rfl (fun h => h) (N' := 20) (a0 := (20, .inl (fun _ => 0))) rfl (by decide) (by decide) (by decide) (Nat.le_of_ble_eq_true rfl) (Nat.le_of_ble_eq_true rfl) d_Model_init_104 (fun q11 f23 H eq11 hq11 ef23 hw => ?_)
  have lt11 : q10 < q11 := by rw [eq11]; exact lx11
  have h_b : f23 b = some (.inr (4, [.int 0, .int 0, .int 0, .ref q0, .ref q1, .ref q2, .ref q3, .ref q4, .ref q5, .ref q6, .ref q7, .ref q8, .ref q9, .ref q10, .null, .long 0, .int 0])) := by rw [ef23, wd_un (wd_neF h_b hq11)]; exact h_b
  have h_q0 : f23 q0 = some (.inl (ca 3, 301, .inr (.inl (fun _ => 0)))) := by rw [ef23, wd_un (wd_neF h_q0 hq11)]; exact h_q0
  have h_q1 : f23 q1 = some (.inl (ca 2, 301, .inl (fun _ => 0))) := by rw [ef23, wd_un (wd_neF h_q1 hq11)]; exact h_q1
  have h_q2 : f23 q2 = some (.inl (ca 2, 301, .inl (fun _ => 0))) := by rw [ef23, wd_un (wd_neF h_q2 hq11)]; exact h_q2
  have h_q3 : f23 q3 = some (.inl (ca 2, 301, .inl (fun _ => 0))) := by rw [ef23, wd_un (wd_neF h_q3 hq11)]; exact h_q3
  have h_q4 : f23 q4 = some (.inl (ca 2, 301, .inl (fun _ => 0))) := by rw [ef23, wd_un (wd_neF h_q4 hq11)]; exact h_q4
  have h_q5 : f23 q5 = some (.inl (ca 2, 903, .inl (fun _ => 0))) := by rw [ef23, wd_un (wd_neF h_q5 hq11)]; exact h_q5
  have h_q6 : f23 q6 = some (.inl (ca 2, 6020, .inl (fun _ => 0))) := by rw [ef23, wd_un (wd_neF h_q6 hq11)]; exact h_q6
  have h_q7 : f23 q7 = some (.inl (ca 2, 6020, .inl (fun _ => 0))) := by rw [ef23, wd_un (wd_neF h_q7 hq11)]; exact h_q7
  have h_q8 : f23 q8 = some (.inl (ca 2, 6020, .inl (fun _ => 0))) := by rw [ef23, wd_un (wd_neF h_q8 hq11)]; exact h_q8
  have h_q9 : f23 q9 = some (.inl (ca 4, 20, .inl (fun _ => 0))) := by rw [ef23, wd_un (wd_neF h_q9 hq11)]; exact h_q9
  have h_q10 : f23 q10 = some (.inl (ca 2, 20, .inl (fun _ => 0))) := by rw [ef23, wd_un (wd_neF h_q10 hq11)]; exact h_q10
  have h_q11 : f23 q11 = some (.inl (ca 2, 20, .inl (fun _ => 0))) := by rw [ef23]; exact wd_us
  refine fp_Model_45 X hK hw hnm h_b rfl rfl d_Model_init_106 (fun f24 H locs ef24 hw => ?_)
  have h_q0 : f24 q0 = some (.inl (ca 3, 301, .inr (.inl (fun _ => 0)))) := by rw [ef24, wd_un (Ne.symm (wd_neA h_b h_q0))]; exact h_q0
  have h_q1 : f24 q1 = some (.inl (ca 2, 301, .inl (fun _ => 0))) := by rw [ef24, wd_un (Ne.symm (wd_neA h_b h_q1))]; exact h_q1
  have h_q2 : f24 q2 = some (.inl (ca 2, 301, .inl (fun _ => 0))) := by rw [ef24, wd_un (Ne.symm (wd_neA h_b h_q2))]; exact h_q2
  have h_q3 : f24 q3 = some (.inl (ca 2, 301, .inl (fun _ => 0))) := by rw [ef24, wd_un (Ne.symm (wd_neA h_b h_q3))]; exact h_q3
  have h_q4 : f24 q4 = some (.inl (ca 2, 301, .inl (fun _ => 0))) := by rw [ef24, wd_un (Ne.symm (wd_neA h_b h_q4))]; exact h_q4
  have h_q5 : f24 q5 = some (.inl (ca 2, 903, .inl (fun _ => 0))) := by rw [ef24, wd_un (Ne.symm (wd_neA h_b h_q5))]; exact h_q5
  have h_q6 : f24 q6 = some (.inl (ca 2, 6020, .inl (fun _ => 0))) := by rw [ef24, wd_un (Ne.symm (wd_neA h_b h_q6))]; exact h_q6
  have h_q7 : f24 q7 = some (.inl (ca 2, 6020, .inl (fun _ => 0))) := by rw [ef24, wd_un (Ne.symm (wd_neA h_b h_q7))]; exact h_q7
  have h_q8 : f24 q8 = some (.inl (ca 2, 6020, .inl (fun _ => 0))) := by rw [ef24, wd_un (Ne.symm (wd_neA h_b h_q8))]; exact h_q8
  have h_q9 : f24 q9 = some (.inl (ca 4, 20, .inl (fun _ => 0))) := by rw [ef24, wd_un (Ne.symm (wd_neA h_b h_q9))]; exact h_q9
  have h_q10 : f24 q10 = some (.inl (ca 2, 20, .inl (fun _ => 0))) := by rw [ef24, wd_un (Ne.symm (wd_neA h_b h_q10))]; exact h_q10
  have h_q11 : f24 q11 = some (.inl (ca 2, 20, .inl (fun _ => 0))) := by rw [ef24, wd_un (Ne.symm (wd_neA h_b h_q11))]; exact h_q11
  have h_b : f24 b = some (.inr (4, [.int 0, .int 0, .int 0, .ref q0, .ref q1, .ref q2, .ref q3, .ref q4, .ref q5, .ref q6, .ref q7, .ref q8, .ref q9, .ref q10, .ref q11, .long 0, .int 0])) := by rw [ef24]; exact wd_us
  refine lv_aload_n hx hb d_Model_init_109 rfl (lv_at hl 0 rfl) ?_
  refine lv_iload_n hx hb d_Model_init_110 rfl (lv_at hl 1 rfl) ?_
  refine lv_iconst (v := 1) hx hb d_Model_init_111 (by decide) ?_
  refine lv_icmp_ge (tgt := 119) hx hb d_Model_init_112 (by decide) (fun c25 => ?_) (fun c25 => ?_)
  · skip
    refine lv_iload_n hx hb d_Model_init_119 rfl (lv_at hl 1 rfl) ?_
    refine lv_bipush (v := 100) hx hb d_Model_init_120 (by decide) ?_
    refine lv_icmp_le (tgt := 130) hx hb d_Model_init_122 (by decide) (fun c26 => ?_) (fun c26 => ?_)
    · skip
      refine lv_iload_n hx hb d_Model_init_130 rfl (lv_at hl 1 rfl) ?_
      refine fp_Model_48 X hK hw hnm h_b rfl rfl d_Model_init_131 (fun f27 H locs ef27 hw => ?_)
      have h_q0 : f27 q0 = some (.inl (ca 3, 301, .inr (.inl (fun _ => 0)))) := by rw [ef27, wd_un (Ne.symm (wd_neA h_b h_q0))]; exact h_q0
      have h_q1 : f27 q1 = some (.inl (ca 2, 301, .inl (fun _ => 0))) := by rw [ef27, wd_un (Ne.symm (wd_neA h_b h_q1))]; exact h_q1
      have h_q2 : f27 q2 = some (.inl (ca 2, 301, .inl (fun _ => 0))) := by rw [ef27, wd_un (Ne.symm (wd_neA h_b h_q2))]; exact h_q2
      have h_q3 : f27 q3 = some (.inl (ca 2, 301, .inl (fun _ => 0))) := by rw [ef27, wd_un (Ne.symm (wd_neA h_b h_q3))]; exact h_q3
      have h_q4 : f27 q4 = some (.inl (ca 2, 301, .inl (fun _ => 0))) := by rw [ef27, wd_un (Ne.symm (wd_neA h_b h_q4))]; exact h_q4
      have h_q5 : f27 q5 = some (.inl (ca 2, 903, .inl (fun _ => 0))) := by rw [ef27, wd_un (Ne.symm (wd_neA h_b h_q5))]; exact h_q5
      have h_q6 : f27 q6 = some (.inl (ca 2, 6020, .inl (fun _ => 0))) := by rw [ef27, wd_un (Ne.symm (wd_neA h_b h_q6))]; exact h_q6
      have h_q7 : f27 q7 = some (.inl (ca 2, 6020, .inl (fun _ => 0))) := by rw [ef27, wd_un (Ne.symm (wd_neA h_b h_q7))]; exact h_q7
      have h_q8 : f27 q8 = some (.inl (ca 2, 6020, .inl (fun _ => 0))) := by rw [ef27, wd_un (Ne.symm (wd_neA h_b h_q8))]; exact h_q8
      have h_q9 : f27 q9 = some (.inl (ca 4, 20, .inl (fun _ => 0))) := by rw [ef27, wd_un (Ne.symm (wd_neA h_b h_q9))]; exact h_q9
      have h_q10 : f27 q10 = some (.inl (ca 2, 20, .inl (fun _ => 0))) := by rw [ef27, wd_un (Ne.symm (wd_neA h_b h_q10))]; exact h_q10
      have h_q11 : f27 q11 = some (.inl (ca 2, 20, .inl (fun _ => 0))) := by rw [ef27, wd_un (Ne.symm (wd_neA h_b h_q11))]; exact h_q11
      have h_b : f27 b = some (.inr (4, [.int 0, .int x, .int 0, .ref q0, .ref q1, .ref q2, .ref q3, .ref q4, .ref q5, .ref q6, .ref q7, .ref q8, .ref q9, .ref q10, .ref q11, .long 0, .int 0])) := by rw [ef27]; exact wd_us
      refine lv_iconst (v := 0) hx hb d_Model_init_134 (by decide) ?_
      refine lv_istore_n (lv' := [(2, .int 0), (0, .ref b), (1, .int x)]) hx hb d_Model_init_135 rfl hl (by decide) rfl (fun ls hl => ?_)
      have hmo : my x = x := ((if_pos c25).trans (if_pos c26))
      obtain ⟨AD, hAD⟩ : ∃ AD : Nat → Nat, AD = (fun k => match k with | 0 => q0 | 1 => q1 | 2 => q2 | 3 => q3 | 4 => q4 | 5 => q5 | 6 => q6 | 7 => q7 | 8 => q8 | 9 => q9 | 10 => q10 | _ => q11) := ⟨_, rfl⟩
      have hm : rM f27 ca b AD 0 x 0 0 0 (fun _ => 0) (fun _ _ => 0) := by
        subst hAD
        refine ⟨h_b, h_q0, fun k g1 g2 => ?_, mono_inj (fun k hk => ?_), Nat.zero_le _⟩
        · match k, g1, g2 with
          | 1, _, _ => exact h_q1
          | 2, _, _ => exact h_q2
          | 3, _, _ => exact h_q3
          | 4, _, _ => exact h_q4
          | 5, _, _ => exact h_q5
          | 6, _, _ => exact h_q6
          | 7, _, _ => exact h_q7
          | 8, _, _ => exact h_q8
          | 9, _, _ => exact h_q9
          | 10, _, _ => exact h_q10
          | 11, _, _ => exact h_q11
        · match k, hk with
          | 0, _ => exact lt1
          | 1, _ => exact lt2
          | 2, _ => exact lt3
          | 3, _ => exact lt4
          | 4, _ => exact lt5
          | 5, _ => exact lt6
          | 6, _ => exact lt7
          | 7, _ => exact lt8
          | 8, _ => exact lt9
          | 9, _ => exact lt10
          | 10, _ => exact lt11
      clear hAD
      have loop : ∀ (d i : Nat) (g : Nat → Nat → Int32) (f1 : wd_M) (H : Heap) (locs : List Loc) (ls : Array Slot), 6020 = i + d → wd_I D classes (wd_A f s.heap.size) s.heap f1 H locs → rM f1 ca b AD 0 x 0 0 0 (fun _ => 0) g → (∀ k : Nat, k ≠ 8 → g k = fun _ => 0) → (∀ j : Nat, j < i → g 8 j = -1) → lv_has ls 3 [(2, .int (nI i)), (0, .ref b), (1, .int x)] → W p l e rm_Model_init s m args below meth c H locs 12 20528 Q (F0 m 136 ls []) := by
        intro d
        induction d with
        | zero =>
          intro i g f1 H locs ls hdd hw hm hg0 hg8 hl
          have hin : i = 6020 := by omega
          refine lv_iload_n hx hb d_Model_init_136 rfl (lv_at hl 0 rfl) ?_
          refine lv_sipush (v := 6020) hx hb d_Model_init_137 (by decide) ?_
          refine lv_icmp_ge (tgt := 156) hx hb d_Model_init_140 (by decide) (fun _ => ?_) (fun c => absurd (by rw [hin]; decide) c)
          exact ret _ _ _ _ _ d_Model_init_156 hw ⟨AD, g, by rw [hmo]; exact hm, hg0, fun j hj => hg8 j (by omega)⟩
        | succ d ih =>
          intro i g f1 H locs ls hdd hw hm hg0 hg8 hl
          have hin : i < 6020 := by omega
          refine lv_iload_n hx hb d_Model_init_136 rfl (lv_at hl 0 rfl) ?_
          refine lv_sipush (v := 6020) hx hb d_Model_init_137 (by decide) ?_
          refine lv_icmp_ge (tgt := 156) hx hb d_Model_init_140 (by decide) (fun c => absurd c (nI_ge hin (by decide))) (fun _ => ?_)
          refine lv_aload_n hx hb d_Model_init_143 rfl (lv_at hl 1 rfl) ?_
          refine fg_Model_35 X hK hw hm.1 d_Model_init_144 ?_
          refine lv_iload_n hx hb d_Model_init_147 rfl (lv_at hl 0 rfl) ?_
          refine lv_iconst (v := (-1)) hx hb d_Model_init_148 (by decide) ?_
          refine m_st X hK hw hm (k := 8) (j := i) (by decide) (by decide) rfl (by show i < 6020; omega) d_Model_init_149 (fun f28 H locs hm hw => ?_)
          refine lv_iinc (v := ((nI i) + 1)) (lv' := [(2, .int ((nI i) + 1)), (0, .ref b), (1, .int x)]) hx hb d_Model_init_150 hl (k := 0) rfl rfl (by decide) rfl (fun ls hl => ?_)
          refine lv_goto (tgt := 136) hx hb d_Model_init_153 (by decide) ?_
          refine ih (i + 1) _ _ _ _ ls (by omega) hw hm (fun k hk => by rw [vu_ne hk]; exact hg0 k hk) (fun j hj => ?_) (by rw [nI_succ i]; exact lv_sub hl [0, 1, 2] rfl)
          rw [vu_same]
          by_cases hji : j = i
          · subst hji; exact pk_us
          · rw [pk_un hji]; exact hg8 j (by omega)
      refine W.cs (cells' := 12) (slots' := 20528) rfl rfl ?_
      exact loop 6020 0 (fun _ _ => 0) _ _ _ ls rfl hw hm (fun _ _ => rfl) (fun j hj => absurd hj (Nat.not_lt_zero j)) (lv_sub hl [0, 1, 2] rfl)
    · skip
      refine lv_bipush (v := 100) hx hb d_Model_init_125 (by decide) ?_
      refine lv_goto (tgt := 131) hx hb d_Model_init_127 (by decide) ?_
      refine fp_Model_48 X hK hw hnm h_b rfl rfl d_Model_init_131 (fun f29 H locs ef29 hw => ?_)
      have h_q0 : f29 q0 = some (.inl (ca 3, 301, .inr (.inl (fun _ => 0)))) := by rw [ef29, wd_un (Ne.symm (wd_neA h_b h_q0))]; exact h_q0
      have h_q1 : f29 q1 = some (.inl (ca 2, 301, .inl (fun _ => 0))) := by rw [ef29, wd_un (Ne.symm (wd_neA h_b h_q1))]; exact h_q1
      have h_q2 : f29 q2 = some (.inl (ca 2, 301, .inl (fun _ => 0))) := by rw [ef29, wd_un (Ne.symm (wd_neA h_b h_q2))]; exact h_q2
      have h_q3 : f29 q3 = some (.inl (ca 2, 301, .inl (fun _ => 0))) := by rw [ef29, wd_un (Ne.symm (wd_neA h_b h_q3))]; exact h_q3
      have h_q4 : f29 q4 = some (.inl (ca 2, 301, .inl (fun _ => 0))) := by rw [ef29, wd_un (Ne.symm (wd_neA h_b h_q4))]; exact h_q4
      have h_q5 : f29 q5 = some (.inl (ca 2, 903, .inl (fun _ => 0))) := by rw [ef29, wd_un (Ne.symm (wd_neA h_b h_q5))]; exact h_q5
      have h_q6 : f29 q6 = some (.inl (ca 2, 6020, .inl (fun _ => 0))) := by rw [ef29, wd_un (Ne.symm (wd_neA h_b h_q6))]; exact h_q6
      have h_q7 : f29 q7 = some (.inl (ca 2, 6020, .inl (fun _ => 0))) := by rw [ef29, wd_un (Ne.symm (wd_neA h_b h_q7))]; exact h_q7
      have h_q8 : f29 q8 = some (.inl (ca 2, 6020, .inl (fun _ => 0))) := by rw [ef29, wd_un (Ne.symm (wd_neA h_b h_q8))]; exact h_q8
      have h_q9 : f29 q9 = some (.inl (ca 4, 20, .inl (fun _ => 0))) := by rw [ef29, wd_un (Ne.symm (wd_neA h_b h_q9))]; exact h_q9
      have h_q10 : f29 q10 = some (.inl (ca 2, 20, .inl (fun _ => 0))) := by rw [ef29, wd_un (Ne.symm (wd_neA h_b h_q10))]; exact h_q10
      have h_q11 : f29 q11 = some (.inl (ca 2, 20, .inl (fun _ => 0))) := by rw [ef29, wd_un (Ne.symm (wd_neA h_b h_q11))]; exact h_q11
      have h_b : f29 b = some (.inr (4, [.int 0, .int 100, .int 0, .ref q0, .ref q1, .ref q2, .ref q3, .ref q4, .ref q5, .ref q6, .ref q7, .ref q8, .ref q9, .ref q10, .ref q11, .long 0, .int 0])) := by rw [ef29]; exact wd_us
      refine lv_iconst (v := 0) hx hb d_Model_init_134 (by decide) ?_
      refine lv_istore_n (lv' := [(2, .int 0), (0, .ref b), (1, .int x)]) hx hb d_Model_init_135 rfl hl (by decide) rfl (fun ls hl => ?_)
      have hmo : my x = 100 := ((if_pos c25).trans (if_neg c26))
      obtain ⟨AD, hAD⟩ : ∃ AD : Nat → Nat, AD = (fun k => match k with | 0 => q0 | 1 => q1 | 2 => q2 | 3 => q3 | 4 => q4 | 5 => q5 | 6 => q6 | 7 => q7 | 8 => q8 | 9 => q9 | 10 => q10 | _ => q11) := ⟨_, rfl⟩
      have hm : rM f29 ca b AD 0 100 0 0 0 (fun _ => 0) (fun _ _ => 0) := by
        subst hAD
        refine ⟨h_b, h_q0, fun k g1 g2 => ?_, mono_inj (fun k hk => ?_), Nat.zero_le _⟩
        · match k, g1, g2 with
          | 1, _, _ => exact h_q1
          | 2, _, _ => exact h_q2
          | 3, _, _ => exact h_q3
          | 4, _, _ => exact h_q4
          | 5, _, _ => exact h_q5
          | 6, _, _ => exact h_q6
          | 7, _, _ => exact h_q7
          | 8, _, _ => exact h_q8
          | 9, _, _ => exact h_q9
          | 10, _, _ => exact h_q10
          | 11, _, _ => exact h_q11
        · match k, hk with
          | 0, _ => exact lt1
          | 1, _ => exact lt2
          | 2, _ => exact lt3
          | 3, _ => exact lt4
          | 4, _ => exact lt5
          | 5, _ => exact lt6
          | 6, _ => exact lt7
          | 7, _ => exact lt8
          | 8, _ => exact lt9
          | 9, _ => exact lt10
          | 10, _ => exact lt11
      clear hAD
      have loop : ∀ (d i : Nat) (g : Nat → Nat → Int32) (f1 : wd_M) (H : Heap) (locs : List Loc) (ls : Array Slot), 6020 = i + d → wd_I D classes (wd_A f s.heap.size) s.heap f1 H locs → rM f1 ca b AD 0 100 0 0 0 (fun _ => 0) g → (∀ k : Nat, k ≠ 8 → g k = fun _ => 0) → (∀ j : Nat, j < i → g 8 j = -1) → lv_has ls 3 [(2, .int (nI i)), (0, .ref b), (1, .int x)] → W p l e rm_Model_init s m args below meth c H locs 12 20528 Q (F0 m 136 ls []) := by
        intro d
        induction d with
        | zero =>
          intro i g f1 H locs ls hdd hw hm hg0 hg8 hl
          have hin : i = 6020 := by omega
          refine lv_iload_n hx hb d_Model_init_136 rfl (lv_at hl 0 rfl) ?_
          refine lv_sipush (v := 6020) hx hb d_Model_init_137 (by decide) ?_
          refine lv_icmp_ge (tgt := 156) hx hb d_Model_init_140 (by decide) (fun _ => ?_) (fun c => absurd (by rw [hin]; decide) c)
          exact ret _ _ _ _ _ d_Model_init_156 hw ⟨AD, g, by rw [hmo]; exact hm, hg0, fun j hj => hg8 j (by omega)⟩
        | succ d ih =>
          intro i g f1 H locs ls hdd hw hm hg0 hg8 hl
          have hin : i < 6020 := by omega
          refine lv_iload_n hx hb d_Model_init_136 rfl (lv_at hl 0 rfl) ?_
          refine lv_sipush (v := 6020) hx hb d_Model_init_137 (by decide) ?_
          refine lv_icmp_ge (tgt := 156) hx hb d_Model_init_140 (by decide) (fun c => absurd c (nI_ge hin (by decide))) (fun _ => ?_)
          refine lv_aload_n hx hb d_Model_init_143 rfl (lv_at hl 1 rfl) ?_
          refine fg_Model_35 X hK hw hm.1 d_Model_init_144 ?_
          refine lv_iload_n hx hb d_Model_init_147 rfl (lv_at hl 0 rfl) ?_
          refine lv_iconst (v := (-1)) hx hb d_Model_init_148 (by decide) ?_
          refine m_st X hK hw hm (k := 8) (j := i) (by decide) (by decide) rfl (by show i < 6020; omega) d_Model_init_149 (fun f30 H locs hm hw => ?_)
          refine lv_iinc (v := ((nI i) + 1)) (lv' := [(2, .int ((nI i) + 1)), (0, .ref b), (1, .int x)]) hx hb d_Model_init_150 hl (k := 0) rfl rfl (by decide) rfl (fun ls hl => ?_)
          refine lv_goto (tgt := 136) hx hb d_Model_init_153 (by decide) ?_
          refine ih (i + 1) _ _ _ _ ls (by omega) hw hm (fun k hk => by rw [vu_ne hk]; exact hg0 k hk) (fun j hj => ?_) (by rw [nI_succ i]; exact lv_sub hl [0, 1, 2] rfl)
          rw [vu_same]
          by_cases hji : j = i
          · subst hji; exact pk_us
          · rw [pk_un hji]; exact hg8 j (by omega)
      refine W.cs (cells' := 12) (slots' := 20528) rfl rfl ?_
      exact loop 6020 0 (fun _ _ => 0) _ _ _ ls rfl hw hm (fun _ _ => rfl) (fun j hj => absurd hj (Nat.not_lt_zero j)) (lv_sub hl [0, 1, 2] rfl)
  · skip
    refine lv_iconst (v := 1) hx hb d_Model_init_115 (by decide) ?_
    refine lv_goto (tgt := 131) hx hb d_Model_init_116 (by decide) ?_
    refine fp_Model_48 X hK hw hnm h_b rfl rfl d_Model_init_131 (fun f31 H locs ef31 hw => ?_)
    have h_q0 : f31 q0 = some (.inl (ca 3, 301, .inr (.inl (fun _ => 0)))) := by rw [ef31, wd_un (Ne.symm (wd_neA h_b h_q0))]; exact h_q0
    have h_q1 : f31 q1 = some (.inl (ca 2, 301, .inl (fun _ => 0))) := by rw [ef31, wd_un (Ne.symm (wd_neA h_b h_q1))]; exact h_q1
    have h_q2 : f31 q2 = some (.inl (ca 2, 301, .inl (fun _ => 0))) := by rw [ef31, wd_un (Ne.symm (wd_neA h_b h_q2))]; exact h_q2
    have h_q3 : f31 q3 = some (.inl (ca 2, 301, .inl (fun _ => 0))) := by rw [ef31, wd_un (Ne.symm (wd_neA h_b h_q3))]; exact h_q3
    have h_q4 : f31 q4 = some (.inl (ca 2, 301, .inl (fun _ => 0))) := by rw [ef31, wd_un (Ne.symm (wd_neA h_b h_q4))]; exact h_q4
    have h_q5 : f31 q5 = some (.inl (ca 2, 903, .inl (fun _ => 0))) := by rw [ef31, wd_un (Ne.symm (wd_neA h_b h_q5))]; exact h_q5
    have h_q6 : f31 q6 = some (.inl (ca 2, 6020, .inl (fun _ => 0))) := by rw [ef31, wd_un (Ne.symm (wd_neA h_b h_q6))]; exact h_q6
    have h_q7 : f31 q7 = some (.inl (ca 2, 6020, .inl (fun _ => 0))) := by rw [ef31, wd_un (Ne.symm (wd_neA h_b h_q7))]; exact h_q7
    have h_q8 : f31 q8 = some (.inl (ca 2, 6020, .inl (fun _ => 0))) := by rw [ef31, wd_un (Ne.symm (wd_neA h_b h_q8))]; exact h_q8
    have h_q9 : f31 q9 = some (.inl (ca 4, 20, .inl (fun _ => 0))) := by rw [ef31, wd_un (Ne.symm (wd_neA h_b h_q9))]; exact h_q9
    have h_q10 : f31 q10 = some (.inl (ca 2, 20, .inl (fun _ => 0))) := by rw [ef31, wd_un (Ne.symm (wd_neA h_b h_q10))]; exact h_q10
    have h_q11 : f31 q11 = some (.inl (ca 2, 20, .inl (fun _ => 0))) := by rw [ef31, wd_un (Ne.symm (wd_neA h_b h_q11))]; exact h_q11
    have h_b : f31 b = some (.inr (4, [.int 0, .int 1, .int 0, .ref q0, .ref q1, .ref q2, .ref q3, .ref q4, .ref q5, .ref q6, .ref q7, .ref q8, .ref q9, .ref q10, .ref q11, .long 0, .int 0])) := by rw [ef31]; exact wd_us
    refine lv_iconst (v := 0) hx hb d_Model_init_134 (by decide) ?_
    refine lv_istore_n (lv' := [(2, .int 0), (0, .ref b), (1, .int x)]) hx hb d_Model_init_135 rfl hl (by decide) rfl (fun ls hl => ?_)
    have hmo : my x = 1 := (if_neg c25)
    obtain ⟨AD, hAD⟩ : ∃ AD : Nat → Nat, AD = (fun k => match k with | 0 => q0 | 1 => q1 | 2 => q2 | 3 => q3 | 4 => q4 | 5 => q5 | 6 => q6 | 7 => q7 | 8 => q8 | 9 => q9 | 10 => q10 | _ => q11) := ⟨_, rfl⟩
    have hm : rM f31 ca b AD 0 1 0 0 0 (fun _ => 0) (fun _ _ => 0) := by
      subst hAD
      refine ⟨h_b, h_q0, fun k g1 g2 => ?_, mono_inj (fun k hk => ?_), Nat.zero_le _⟩
      · match k, g1, g2 with
        | 1, _, _ => exact h_q1
        | 2, _, _ => exact h_q2
        | 3, _, _ => exact h_q3
        | 4, _, _ => exact h_q4
        | 5, _, _ => exact h_q5
        | 6, _, _ => exact h_q6
        | 7, _, _ => exact h_q7
        | 8, _, _ => exact h_q8
        | 9, _, _ => exact h_q9
        | 10, _, _ => exact h_q10
        | 11, _, _ => exact h_q11
      · match k, hk with
        | 0, _ => exact lt1
        | 1, _ => exact lt2
        | 2, _ => exact lt3
        | 3, _ => exact lt4
        | 4, _ => exact lt5
        | 5, _ => exact lt6
        | 6, _ => exact lt7
        | 7, _ => exact lt8
        | 8, _ => exact lt9
        | 9, _ => exact lt10
        | 10, _ => exact lt11
    clear hAD
    have loop : ∀ (d i : Nat) (g : Nat → Nat → Int32) (f1 : wd_M) (H : Heap) (locs : List Loc) (ls : Array Slot), 6020 = i + d → wd_I D classes (wd_A f s.heap.size) s.heap f1 H locs → rM f1 ca b AD 0 1 0 0 0 (fun _ => 0) g → (∀ k : Nat, k ≠ 8 → g k = fun _ => 0) → (∀ j : Nat, j < i → g 8 j = -1) → lv_has ls 3 [(2, .int (nI i)), (0, .ref b), (1, .int x)] → W p l e rm_Model_init s m args below meth c H locs 12 20528 Q (F0 m 136 ls []) := by
      intro d
      induction d with
      | zero =>
        intro i g f1 H locs ls hdd hw hm hg0 hg8 hl
        have hin : i = 6020 := by omega
        refine lv_iload_n hx hb d_Model_init_136 rfl (lv_at hl 0 rfl) ?_
        refine lv_sipush (v := 6020) hx hb d_Model_init_137 (by decide) ?_
        refine lv_icmp_ge (tgt := 156) hx hb d_Model_init_140 (by decide) (fun _ => ?_) (fun c => absurd (by rw [hin]; decide) c)
        exact ret _ _ _ _ _ d_Model_init_156 hw ⟨AD, g, by rw [hmo]; exact hm, hg0, fun j hj => hg8 j (by omega)⟩
      | succ d ih =>
        intro i g f1 H locs ls hdd hw hm hg0 hg8 hl
        have hin : i < 6020 := by omega
        refine lv_iload_n hx hb d_Model_init_136 rfl (lv_at hl 0 rfl) ?_
        refine lv_sipush (v := 6020) hx hb d_Model_init_137 (by decide) ?_
        refine lv_icmp_ge (tgt := 156) hx hb d_Model_init_140 (by decide) (fun c => absurd c (nI_ge hin (by decide))) (fun _ => ?_)
        refine lv_aload_n hx hb d_Model_init_143 rfl (lv_at hl 1 rfl) ?_
        refine fg_Model_35 X hK hw hm.1 d_Model_init_144 ?_
        refine lv_iload_n hx hb d_Model_init_147 rfl (lv_at hl 0 rfl) ?_
        refine lv_iconst (v := (-1)) hx hb d_Model_init_148 (by decide) ?_
        refine m_st X hK hw hm (k := 8) (j := i) (by decide) (by decide) rfl (by show i < 6020; omega) d_Model_init_149 (fun f32 H locs hm hw => ?_)
        refine lv_iinc (v := ((nI i) + 1)) (lv' := [(2, .int ((nI i) + 1)), (0, .ref b), (1, .int x)]) hx hb d_Model_init_150 hl (k := 0) rfl rfl (by decide) rfl (fun ls hl => ?_)
        refine lv_goto (tgt := 136) hx hb d_Model_init_153 (by decide) ?_
        refine ih (i + 1) _ _ _ _ ls (by omega) hw hm (fun k hk => by rw [vu_ne hk]; exact hg0 k hk) (fun j hj => ?_) (by rw [nI_succ i]; exact lv_sub hl [0, 1, 2] rfl)
        rw [vu_same]
        by_cases hji : j = i
        · subst hji; exact pk_us
        · rw [pk_un hji]; exact hg8 j (by omega)
    refine W.cs (cells' := 12) (slots' := 20528) rfl rfl ?_
    exact loop 6020 0 (fun _ _ => 0) _ _ _ ls rfl hw hm (fun _ _ => rfl) (fun j hj => absurd hj (Nat.not_lt_zero j)) (lv_sub hl [0, 1, 2] rfl)

