abbrev rm_ClerkRows_init : Room := { frames := 2, cells := 22, slots := 420, locals := 33 }
set_option maxHeartbeats 4000000 in
set_option maxRecDepth 100000 in
theorem c_ClerkRows_init {l : Launch} {D : va_G} {ca : Nat → ClassId} {f : wd_M} {sz : Nat} (a : Nat) (ha : f a = some (.inr (0, [.int 0, .null, .null, .int 0, .long 0, .int 0]))) (x : Int32) : Met l y_ClerkRows_init (.code y_ClerkRows_init b_ClerkRows_init 3 none :: tb) rm_ClerkRows_init (va_Pc [.ref a, .int x] (wd_preA "ClerkRows$Picture" "ClerkRows$Clerk" D classes (ty ca) f sz)) (va_Qv (fun f' => ∃ (pa ka : Nat) (gk : Nat → Option Nat) (K : Nat → KT), f' a = some (eR (mx x) pa ka 0 0 0) ∧ f' pa = some (eA (ca 0) 300 (fun _ => none)) ∧ f' ka = some (eA (ca 1) 20 gk) ∧ rk f' gk K ∧ ∀ j : Nat, j < 20 → kIn (K j) = 0 ∧ kOf (K j) = 0 ∧ kSk (K j) = 0 ∧ kTu (K j) = none) (wd_B D classes f sz) (wd_A f sz)) 22 420 (wd_A f sz) := by
  refine wd_QvA (own := R_ClerkRows) (by decide) rfl (Nat.le_of_ble_eq_true rfl) ?_
  intro p e s m args below meth c Q X hK hnm hao hw ret ls hl
  have hx := X.1
  have hb := X.2.1
  have hown := X.2.2.2.1
  have hts := X.2.2.2.2
  have hl : lv_has ls 3 [(0, .ref a), (1, .int x)] := hl
  refine lv_aload_n hx hb d_ClerkRows_init_0 rfl (lv_at hl 0 rfl) ?_
  refine wd_obj X ml_ClerkRows_1 im_obj cd_obj hl.1 d_ClerkRows_init_1 (Nat.le_of_ble_eq_true rfl) (Nat.le_of_ble_eq_true rfl) ?_
  refine lv_aload_n hx hb d_ClerkRows_init_4 rfl (lv_at hl 0 rfl) ?_
  refine lv_sipush (v := 300) hx hb d_ClerkRows_init_5 (by decide) ?_
  refine wd_newq X hK hw cl_ClerkRows_9 hao.1 0 rfl (N' := 300) (by decide) (by decide) (by decide) (Nat.le_of_ble_eq_true rfl) (Nat.le_of_ble_eq_true rfl) d_ClerkRows_init_8 (fun pa f1 H epa hpa ef1 hw => ?_)
  have ha : f1 a = some (.inr (0, [.int 0, .null, .null, .int 0, .long 0, .int 0])) := by rw [ef1, wd_un (wd_neF ha hpa)]; exact ha
  have hg : f1 pa = some (eA (ca 0) 300 (fun _ => none)) := by rw [ef1]; exact wd_us
  refine fp_ClerkRows_11 X hK hw hnm ha rfl rfl d_ClerkRows_init_11 (fun f2 H locs ef2 hw => ?_)
  have hg : f2 pa = some (eA (ca 0) 300 (fun _ => none)) := by rw [ef2, wd_un (Ne.symm (wd_neA ha hg))]; exact hg
  have ha : f2 a = some (.inr (0, [.int 0, .ref pa, .null, .int 0, .long 0, .int 0])) := by rw [ef2]; exact wd_us
  refine lv_aload_n hx hb d_ClerkRows_init_14 rfl (lv_at hl 0 rfl) ?_
  refine lv_bipush (v := 20) hx hb d_ClerkRows_init_15 (by decide) ?_
  have hg1x := hg
  refine wd_newq X hK hw cl_ClerkRows_15 hao.2 1 rfl (N' := 20) (by decide) (by decide) (by decide) (Nat.le_of_ble_eq_true rfl) (Nat.le_of_ble_eq_true rfl) d_ClerkRows_init_17 (fun ka f3 H eka hka ef3 hw => ?_)
  have ha : f3 a = some (.inr (0, [.int 0, .ref pa, .null, .int 0, .long 0, .int 0])) := by rw [ef3, wd_un (wd_neF ha hka)]; exact ha
  have hg : f3 pa = some (eA (ca 0) 300 (fun _ => none)) := by rw [ef3, wd_un (wd_neF hg hka)]; exact hg
  have hgk : f3 ka = some (eA (ca 1) 20 (fun _ => none)) := by rw [ef3]; exact wd_us
  have hpk0 : pa ≠ ka := wd_neF hg1x hka
  refine fp_ClerkRows_17 X hK hw hnm ha rfl rfl d_ClerkRows_init_20 (fun f4 H locs ef4 hw => ?_)
  have hg : f4 pa = some (eA (ca 0) 300 (fun _ => none)) := by rw [ef4, wd_un (Ne.symm (wd_neA ha hg))]; exact hg
  have hgk : f4 ka = some (eA (ca 1) 20 (fun _ => none)) := by rw [ef4, wd_un (Ne.symm (wd_neA ha hgk))]; exact hgk
  have ha : f4 a = some (eR 0 pa ka 0 0 0) := by rw [ef4]; exact wd_us
  refine lv_aload_n hx hb d_ClerkRows_init_23 rfl (lv_at hl 0 rfl) ?_
  refine lv_iconst (v := 0) hx hb d_ClerkRows_init_24 (by decide) ?_
  refine fp_ClerkRows_21 X hK hw ha rfl rfl d_ClerkRows_init_25 (fun f5 H locs ef5 hw => ?_)
  have hg : f5 pa = some (eA (ca 0) 300 (fun _ => none)) := by rw [ef5, wd_un (Ne.symm (wd_neA ha hg))]; exact hg
  have hgk : f5 ka = some (eA (ca 1) 20 (fun _ => none)) := by rw [ef5, wd_un (Ne.symm (wd_neA ha hgk))]; exact hgk
  have ha : f5 a = some (eR 0 pa ka 0 0 0) := by rw [ef5]; exact wd_us
  refine lv_aload_n hx hb d_ClerkRows_init_28 rfl (lv_at hl 0 rfl) ?_
  refine lv_lconst (v := 0) hx hb d_ClerkRows_init_29 (by decide) ?_
  refine fp_ClerkRows_25 X hK hw ha rfl rfl d_ClerkRows_init_30 (fun f6 H locs ef6 hw => ?_)
  have hg : f6 pa = some (eA (ca 0) 300 (fun _ => none)) := by rw [ef6, wd_un (Ne.symm (wd_neA ha hg))]; exact hg
  have hgk : f6 ka = some (eA (ca 1) 20 (fun _ => none)) := by rw [ef6, wd_un (Ne.symm (wd_neA ha hgk))]; exact hgk
  have ha : f6 a = some (eR 0 pa ka 0 0 0) := by rw [ef6]; exact wd_us
  refine lv_aload_n hx hb d_ClerkRows_init_33 rfl (lv_at hl 0 rfl) ?_
  refine lv_iconst (v := 0) hx hb d_ClerkRows_init_34 (by decide) ?_
  refine fp_ClerkRows_29 X hK hw ha rfl rfl d_ClerkRows_init_35 (fun f7 H locs ef7 hw => ?_)
  have hg : f7 pa = some (eA (ca 0) 300 (fun _ => none)) := by rw [ef7, wd_un (Ne.symm (wd_neA ha hg))]; exact hg
  have hgk : f7 ka = some (eA (ca 1) 20 (fun _ => none)) := by rw [ef7, wd_un (Ne.symm (wd_neA ha hgk))]; exact hgk
  have ha : f7 a = some (eR 0 pa ka 0 0 0) := by rw [ef7]; exact wd_us
  refine lv_aload_n hx hb d_ClerkRows_init_38 rfl (lv_at hl 0 rfl) ?_
  refine lv_iconst (v := 1) hx hb d_ClerkRows_init_39 (by decide) ?_
  refine lv_bipush (v := 100) hx hb d_ClerkRows_init_40 (by decide) ?_
  refine lv_iload_n hx hb d_ClerkRows_init_42 rfl (lv_at hl 1 rfl) ?_
  refine va_mmin hx hb (X.2.2.1.trans hl.1.symm) hown (hts _ ml_ClerkRows_32) (hts _ sm_min) (hts _ in_Math) (hts _ cd_min) (Nat.le_of_ble_eq_true rfl) (Nat.le_of_ble_eq_true rfl) (Nat.le_of_ble_eq_true rfl) (Nat.le_of_ble_eq_true rfl) d_ClerkRows_init_43 ?_
  refine va_mmax hx hb (X.2.2.1.trans hl.1.symm) hown (hts _ ml_ClerkRows_38) (hts _ sm_max) (hts _ in_Math) (hts _ cd_max) (Nat.le_of_ble_eq_true rfl) (Nat.le_of_ble_eq_true rfl) (Nat.le_of_ble_eq_true rfl) (Nat.le_of_ble_eq_true rfl) d_ClerkRows_init_46 ?_
  refine fp_ClerkRows_41 X hK hw hnm ha rfl rfl d_ClerkRows_init_49 (fun f8 H locs ef8 hw => ?_)
  have hg : f8 pa = some (eA (ca 0) 300 (fun _ => none)) := by rw [ef8, wd_un (Ne.symm (wd_neA ha hg))]; exact hg
  have hgk : f8 ka = some (eA (ca 1) 20 (fun _ => none)) := by rw [ef8, wd_un (Ne.symm (wd_neA ha hgk))]; exact hgk
  have ha : f8 a = some (eR (mx x) pa ka 0 0 0) := by rw [ef8]; exact wd_us
  refine lv_iconst (v := 0) hx hb d_ClerkRows_init_52 (by decide) ?_
  refine lv_istore_n (lv' := [(2, .int 0), (0, .ref a), (1, .int x)]) hx hb d_ClerkRows_init_53 rfl hl (by decide) rfl (fun ls hl => ?_)
  have hpk : ka ≠ pa := Ne.symm hpk0
  have loop : ∀ (d i : Nat) (gk : Nat → Option Nat) (kd : Nat → Nat) (f1 : wd_M) (H : Heap) (locs : List Loc) (ls : Array Slot), 20 = i + d → wd_I D classes (wd_A f s.heap.size) s.heap f1 H locs → f1 a = some (eR (mx x) pa ka 0 0 0) → f1 pa = some (eA (ca 0) 300 (fun _ => none)) → f1 ka = some (eA (ca 1) 20 gk) → (∀ j : Nat, j < i → gk j = some (kd j) ∧ f1 (kd j) = some (eK (nI j) 0 0 0 none)) → lv_has ls 3 [(2, .int (nI i)), (0, .ref a), (1, .int x)] → W p l e rm_ClerkRows_init s m args below meth c H locs (2 + i) (320 + 5 * i) Q (F0 m 54 ls []) := by
    intro d
    induction d with
    | zero =>
      intro i gk kd f1 H locs ls hd hw ha hg hgk hkd hl
      have hi : i = 20 := by omega
      subst hi
      refine lv_iload_n hx hb d_ClerkRows_init_54 rfl (lv_at hl 0 rfl) ?_
      refine lv_bipush (v := 20) hx hb d_ClerkRows_init_55 (by decide) ?_
      refine lv_icmp_ge (tgt := 80) hx hb d_ClerkRows_init_57 (by decide) (fun _ => ?_) (fun c => absurd (by decide) c)
      refine W.widen (k := 22) (n := 420) (Nat.le_refl _) (Nat.le_refl _) ?_
      exact ret _ _ _ _ _ d_ClerkRows_init_80 hw ⟨pa, ka, gk, fun j => (kd j, 0, 0, 0, none), ha, hg, hgk, fun j hj => hkd j hj, fun j hj => ⟨rfl, rfl, rfl, rfl⟩⟩
    | succ d ih =>
      intro i gk kd f1 H locs ls hd hw ha hg hgk hkd hl
      have hi : i < 20 := by omega
      refine lv_iload_n hx hb d_ClerkRows_init_54 rfl (lv_at hl 0 rfl) ?_
      refine lv_bipush (v := 20) hx hb d_ClerkRows_init_55 (by decide) ?_
      refine lv_icmp_ge (tgt := 80) hx hb d_ClerkRows_init_57 (by decide) (fun c => absurd c (nI_ge hi (by decide))) (fun _ => ?_)
      refine lv_aload_n hx hb d_ClerkRows_init_60 rfl (lv_at hl 1 rfl) ?_
      refine fg_ClerkRows_17 X hK hw ha d_ClerkRows_init_61 ?_
      refine lv_iload_n hx hb d_ClerkRows_init_64 rfl (lv_at hl 0 rfl) ?_
      have hgk0 := hgk
      refine nw_ClerkRows_15 X hK hw (by show 2 + i + 1 ≤ 22; omega) (by show 320 + 5 * i + 5 ≤ 420; omega) d_ClerkRows_init_65 (fun q9 f10 H eq9 hq9 ef10 hw => ?_)
      have ha : f10 a = some (eR (mx x) pa ka 0 0 0) := by rw [ef10, wd_un (wd_neF ha hq9)]; exact ha
      have hg : f10 pa = some (eA (ca 0) 300 (fun _ => none)) := by rw [ef10, wd_un (wd_neF hg hq9)]; exact hg
      have hgk : f10 ka = some (eA (ca 1) 20 gk) := by rw [ef10, wd_un (wd_neF hgk hq9)]; exact hgk
      have h_q9 : f10 q9 = some (eK 0 0 0 0 none) := by rw [ef10]; exact wd_us
      refine lv_dup hx hb d_ClerkRows_init_68 rfl ?_
      refine lv_iload_n hx hb d_ClerkRows_init_69 rfl (lv_at hl 0 rfl) ?_
      refine wd_mI (As := [.int (nI i)]) (rest := [.ref q9, .int (nI i), .ref ka]) X hK hw (c_Clerk_init q9 h_q9 (nI i)) (cw_ClerkRows_44 hts rfl rfl ⟨(Nat.le_of_ble_eq_true rfl), (Nat.le_of_ble_eq_true rfl)⟩) rfl hl.1 rfl (Nat.le_of_ble_eq_true rfl) d_ClerkRows_init_70 ⟨by show 2 + i + 1 + 0 ≤ 22; omega, by show 320 + 5 * i + 5 + 0 ≤ 420; omega⟩ (fun f11 H locs ef11 hw => ?_)
      have ha : f11 a = some (eR (mx x) pa ka 0 0 0) := by rw [ef11, wd_un (wd_ne ha h_q9 (by decide))]; exact ha
      have hg : f11 pa = some (eA (ca 0) 300 (fun _ => none)) := by rw [ef11, wd_un (Ne.symm (wd_neA h_q9 hg))]; exact hg
      have hgk : f11 ka = some (eA (ca 1) 20 gk) := by rw [ef11, wd_un (Ne.symm (wd_neA h_q9 hgk))]; exact hgk
      have h_q9 : f11 q9 = some (eK (nI i) 0 0 0 none) := by rw [ef11]; exact wd_us
      refine wd_astS X hK hw hgk 1 (r := (R_Clerk, F_Clerk, 5)) rfl h_q9 rfl hi (by decide) d_ClerkRows_init_73 (fun f12 H locs ef12 hw => ?_)
      have ha : f12 a = some (eR (mx x) pa ka 0 0 0) := by rw [ef12, wd_un (wd_neA ha hgk)]; exact ha
      have hg : f12 pa = some (eA (ca 0) 300 (fun _ => none)) := by rw [ef12, wd_un (Ne.symm hpk)]; exact hg
      have h_q9 : f12 q9 = some (eK (nI i) 0 0 0 none) := by rw [ef12, wd_un (wd_neA h_q9 hgk)]; exact h_q9
      have hgk : f12 ka = some (eA (ca 1) 20 (va_up gk i (some q9))) := by rw [ef12]; exact wd_us
      refine lv_iinc (v := ((nI i) + 1)) (lv' := [(2, .int ((nI i) + 1)), (0, .ref a), (1, .int x)]) hx hb d_ClerkRows_init_74 hl (k := 0) rfl rfl (by decide) rfl (fun ls hl => ?_)
      refine lv_goto (tgt := 54) hx hb d_ClerkRows_init_77 (by decide) ?_
      refine W.cs (cells' := 2 + (i + 1)) (slots' := 320 + 5 * (i + 1)) (by omega) (by omega) ?_
      refine ih (i + 1) (va_up gk i (some q9)) (va_up kd i q9) _ _ _ ls (by omega) hw ha hg hgk (fun j hj => ?_) (by rw [nI_succ i]; exact lv_sub hl [0, 1, 2] rfl)
      by_cases hji : j = i
      · subst hji
        rw [show va_up gk j (some q9) j = some q9 by simp [va_up], show va_up kd j q9 j = q9 by simp [va_up]]
        exact ⟨rfl, h_q9⟩
      · rw [show va_up gk i (some q9) j = gk j by simp [va_up, hji], show va_up kd i q9 j = kd j by simp [va_up, hji]]
        obtain ⟨g1, g2⟩ := hkd j (by omega)
        refine ⟨g1, ?_⟩
        exact ini_keep ef10 ef11 ef12 g2 hq9 hgk0
  refine W.cs (cells' := 2 + 0) (slots' := 320 + 5 * 0) rfl rfl ?_
  exact loop 20 0 (fun _ => none) (fun _ => 0) _ _ _ ls rfl hw ha hg hgk (fun j hj => absurd hj (Nat.not_lt_zero j)) (lv_sub hl [0, 1, 2] rfl)

