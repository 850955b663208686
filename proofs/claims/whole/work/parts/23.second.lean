abbrev rm_Picture_findState : Room := { frames := 1, cells := 0, slots := 0, locals := 22 }
set_option maxHeartbeats 4000000 in
set_option maxRecDepth 100000 in
theorem c_Picture_findState {l : Launch} {D : va_G} {ca : Nat → ClassId} {f : wd_M} (a : Nat) (no : Int32) (du : Int64) (sk wa an en sw : Int32) (la : Option Nat) (ha : f a = some (eP no du sk wa an en sw la)) (L : List TR) (hL : cx f no L la) : Met l y_Picture_findState (.code y_Picture_findState b_Picture_findState 1 (some .int) :: tb) rm_Picture_findState (va_Pc [.ref a] (wd_pre D classes (ty ca) f)) (vp_Si (fun r => r = stt en wa (tk L))) 0 0 (fun _ => False) := by
  refine wd_Si (own := R_Picture) (by decide) rfl (Nat.le_of_ble_eq_true rfl) ?_
  intro p e s m args below meth c Q X hK hw ret ls hl
  have hx := X.1
  have hb := X.2.1
  have hown := X.2.2.2.1
  have hts := X.2.2.2.2
  have hl : lv_has ls 1 [(0, .ref a)] := hl
  refine lv_aload_n hx hb d_Picture_findState_0 rfl (lv_at hl 0 rfl) ?_
  refine wd_cvi (As := []) (rest := []) X hK hw (c_Picture_hasEnded a no du sk wa an en sw la ha) (cw_Picture_38 hts rfl rfl ⟨(Nat.le_of_ble_eq_true rfl), (Nat.le_of_ble_eq_true rfl)⟩) ha rfl rfl rfl hl.1 rfl (Nat.le_of_ble_eq_true rfl) d_Picture_findState_1 ⟨(Nat.le_of_ble_eq_true rfl), (Nat.le_of_ble_eq_true rfl)⟩ (fun r hz => ?_)
  rcases hz with ⟨z1, rfl⟩ | ⟨z1, rfl⟩
  · skip
    refine lv_if_eq (tgt := 12) hx hb d_Picture_findState_4 (by decide) (fun c2 => ?_) (fun c2 => ?_)
    · exact absurd c2 (by decide)
    · skip
      refine lv_aload_n hx hb d_Picture_findState_7 rfl (lv_at hl 0 rfl) ?_
      refine fg_Picture_18 X hK hw ha d_Picture_findState_8 ?_
      exact ret _ _ _ d_Picture_findState_11 (by simp [stt, z1])
  · skip
    refine lv_if_eq (tgt := 12) hx hb d_Picture_findState_4 (by decide) (fun c3 => ?_) (fun c3 => ?_)
    · skip
      refine lv_aload_n hx hb d_Picture_findState_12 rfl (lv_at hl 0 rfl) ?_
      refine wd_cvi (As := []) (rest := []) X hK hw (c_Picture_isWanting a no du sk wa an en sw la ha L hL) (cw_Picture_42 hts rfl rfl ⟨(Nat.le_of_ble_eq_true rfl), (Nat.le_of_ble_eq_true rfl)⟩) ha rfl rfl rfl hl.1 rfl (Nat.le_of_ble_eq_true rfl) d_Picture_findState_13 ⟨(Nat.le_of_ble_eq_true rfl), (Nat.le_of_ble_eq_true rfl)⟩ (fun r hz => ?_)
      rcases hz with ⟨z4, rfl⟩ | ⟨z4, rfl⟩
      · skip
        refine lv_if_eq (tgt := 23) hx hb d_Picture_findState_16 (by decide) (fun c5 => ?_) (fun c5 => ?_)
        · exact absurd c5 (by decide)
        · skip
          refine lv_iconst (v := 0) hx hb d_Picture_findState_19 (by decide) ?_
          refine lv_goto (tgt := 24) hx hb d_Picture_findState_20 (by decide) ?_
          exact ret _ _ _ d_Picture_findState_24 (by simp [stt, Decidable.not_not.mp z1, z4])
      · skip
        refine lv_if_eq (tgt := 23) hx hb d_Picture_findState_16 (by decide) (fun c6 => ?_) (fun c6 => ?_)
        · skip
          refine lv_iconst (v := 1) hx hb d_Picture_findState_23 (by decide) ?_
          exact ret _ _ _ d_Picture_findState_24 (by simp [stt, Decidable.not_not.mp z1, z4])
        · exact absurd c6 (by decide)
    · exact absurd c3 (by decide)

abbrev rm_Picture_isFreeFor : Room := { frames := 1, cells := 0, slots := 0, locals := 23 }
set_option maxHeartbeats 4000000 in
set_option maxRecDepth 100000 in
theorem c_Picture_isFreeFor {l : Launch} {D : va_G} {ca : Nat → ClassId} {f : wd_M} (a : Nat) (no : Int32) (du : Int64) (sk wa an en sw : Int32) (la : Option Nat) (ha : f a = some (eP no du sk wa an en sw la)) (b : Nat) (kn ki ko ks : Int32) (kt : Option Nat) (hk : f b = some (eK kn ki ko ks kt)) (L : List TR) (hL : cx f no L la) : Met l y_Picture_isFreeFor (.code y_Picture_isFreeFor b_Picture_isFreeFor 2 (some .boolean) :: tb) rm_Picture_isFreeFor (va_Pc [.ref a, .ref b] (wd_pre D classes (ty ca) f)) (vp_Si (zb (fre en sk wa L kn ko ks = true))) 0 0 (fun _ => False) := by
  refine wd_Sz (own := R_Picture) (by decide) rfl (Nat.le_of_ble_eq_true rfl) ?_
  intro p e s m args below meth c Q X hK hw ret ls hl
  have hx := X.1
  have hb := X.2.1
  have hown := X.2.2.2.1
  have hts := X.2.2.2.2
  have hl : lv_has ls 2 [(0, .ref a), (1, .ref b)] := hl
  refine lv_aload_n hx hb d_Picture_isFreeFor_0 rfl (lv_at hl 0 rfl) ?_
  refine wd_cvi (As := []) (rest := []) X hK hw (c_Picture_hasEnded a no du sk wa an en sw la ha) (cw_Picture_38 hts rfl rfl ⟨(Nat.le_of_ble_eq_true rfl), (Nat.le_of_ble_eq_true rfl)⟩) ha rfl rfl rfl hl.1 rfl (Nat.le_of_ble_eq_true rfl) d_Picture_isFreeFor_1 ⟨(Nat.le_of_ble_eq_true rfl), (Nat.le_of_ble_eq_true rfl)⟩ (fun r hz => ?_)
  rcases hz with ⟨z1, rfl⟩ | ⟨z1, rfl⟩
  · skip
    refine lv_if_ne (tgt := 37) hx hb d_Picture_isFreeFor_4 (by decide) (fun c2 => ?_) (fun c2 => ?_)
    · skip
      refine lv_iconst (v := 0) hx hb d_Picture_isFreeFor_37 (by decide) ?_
      exact ret _ _ _ d_Picture_isFreeFor_38 rfl (Or.inr ⟨by simp [fre, z1], rfl⟩)
    · exact absurd c2 (by decide)
  · skip
    refine lv_if_ne (tgt := 37) hx hb d_Picture_isFreeFor_4 (by decide) (fun c3 => ?_) (fun c3 => ?_)
    · exact absurd c3 (by decide)
    · skip
      refine lv_aload_n hx hb d_Picture_isFreeFor_7 rfl (lv_at hl 0 rfl) ?_
      refine fg_Picture_35 X hK hw ha d_Picture_isFreeFor_8 ?_
      refine lv_aload_n hx hb d_Picture_isFreeFor_11 rfl (lv_at hl 1 rfl) ?_
      refine fg_Picture_45 X hK hw hk d_Picture_isFreeFor_12 ?_
      refine lv_icmp_gt (tgt := 37) hx hb d_Picture_isFreeFor_15 (by decide) (fun c4 => ?_) (fun c4 => ?_)
      · skip
        refine lv_iconst (v := 0) hx hb d_Picture_isFreeFor_37 (by decide) ?_
        exact ret _ _ _ d_Picture_isFreeFor_38 rfl (Or.inr ⟨by simp [fre, Decidable.not_not.mp z1, c4], rfl⟩)
      · skip
        refine lv_aload_n hx hb d_Picture_isFreeFor_18 rfl (lv_at hl 0 rfl) ?_
        refine wd_cvi (As := []) (rest := []) X hK hw (c_Picture_isWanting a no du sk wa an en sw la ha L hL) (cw_Picture_42 hts rfl rfl ⟨(Nat.le_of_ble_eq_true rfl), (Nat.le_of_ble_eq_true rfl)⟩) ha rfl rfl rfl hl.1 rfl (Nat.le_of_ble_eq_true rfl) d_Picture_isFreeFor_19 ⟨(Nat.le_of_ble_eq_true rfl), (Nat.le_of_ble_eq_true rfl)⟩ (fun r hz => ?_)
        rcases hz with ⟨z5, rfl⟩ | ⟨z5, rfl⟩
        · skip
          refine lv_if_eq (tgt := 37) hx hb d_Picture_isFreeFor_22 (by decide) (fun c6 => ?_) (fun c6 => ?_)
          · exact absurd c6 (by decide)
          · skip
            refine lv_aload_n hx hb d_Picture_isFreeFor_25 rfl (lv_at hl 0 rfl) ?_
            refine lv_aload_n hx hb d_Picture_isFreeFor_26 rfl (lv_at hl 1 rfl) ?_
            refine wd_cvi (As := [.ref b]) (rest := []) X hK hw (c_Picture_isBarredBy a no du sk wa an en sw la ha b kn ki ko ks kt hk L hL) (cw_Picture_48 hts rfl rfl ⟨(Nat.le_of_ble_eq_true rfl), (Nat.le_of_ble_eq_true rfl)⟩) ha rfl rfl rfl hl.1 rfl (Nat.le_of_ble_eq_true rfl) d_Picture_isFreeFor_27 ⟨(Nat.le_of_ble_eq_true rfl), (Nat.le_of_ble_eq_true rfl)⟩ (fun r hz => ?_)
            rcases hz with ⟨z7, rfl⟩ | ⟨z7, rfl⟩
            · skip
              refine lv_if_ne (tgt := 37) hx hb d_Picture_isFreeFor_30 (by decide) (fun c8 => ?_) (fun c8 => ?_)
              · skip
                refine lv_iconst (v := 0) hx hb d_Picture_isFreeFor_37 (by decide) ?_
                exact ret _ _ _ d_Picture_isFreeFor_38 rfl (Or.inr ⟨by simp [fre, Decidable.not_not.mp z1, c4, z5, z7], rfl⟩)
              · exact absurd c8 (by decide)
            · skip
              refine lv_if_ne (tgt := 37) hx hb d_Picture_isFreeFor_30 (by decide) (fun c9 => ?_) (fun c9 => ?_)
              · exact absurd c9 (by decide)
              · skip
                refine lv_iconst (v := 1) hx hb d_Picture_isFreeFor_33 (by decide) ?_
                refine lv_goto (tgt := 38) hx hb d_Picture_isFreeFor_34 (by decide) ?_
                exact ret _ _ _ d_Picture_isFreeFor_38 rfl (Or.inl ⟨by simp [fre, Decidable.not_not.mp z1, c4, z5, z7], rfl⟩)
        · skip
          refine lv_if_eq (tgt := 37) hx hb d_Picture_isFreeFor_22 (by decide) (fun c10 => ?_) (fun c10 => ?_)
          · skip
            refine lv_iconst (v := 0) hx hb d_Picture_isFreeFor_37 (by decide) ?_
            exact ret _ _ _ d_Picture_isFreeFor_38 rfl (Or.inr ⟨by simp [fre, Decidable.not_not.mp z1, c4, z5], rfl⟩)
          · exact absurd c10 (by decide)

abbrev rm_Clerk_init : Room := { frames := 1, cells := 0, slots := 0, locals := 12 }
set_option maxHeartbeats 4000000 in
set_option maxRecDepth 100000 in
theorem c_Clerk_init {l : Launch} {D : va_G} {ca : Nat → ClassId} {f : wd_M} {sz : Nat} (q : Nat) (hq : f q = some (eK 0 0 0 0 none)) (n : Int32) : Met l y_Clerk_init (.code y_Clerk_init b_Clerk_init 2 none :: tb) rm_Clerk_init (va_Pc [.ref q, .int n] (wd_preZ D classes (ty ca) f sz)) (va_Qv (fun f' => f' = wd_up f q (eK n 0 0 0 none)) (wd_B D classes f sz) (wd_A f sz)) 0 0 (wd_A f sz) := by
  refine wd_Qv (own := R_Clerk) (by decide) rfl (Nat.le_of_ble_eq_true rfl) ?_
  intro p e s m args below meth c Q X hK hnm hw ret ls hl
  have hx := X.1
  have hb := X.2.1
  have hown := X.2.2.2.1
  have hts := X.2.2.2.2
  have hl : lv_has ls 2 [(0, .ref q), (1, .int n)] := hl
  refine lv_aload_n hx hb d_Clerk_init_0 rfl (lv_at hl 0 rfl) ?_
  refine wd_obj X ml_Clerk_1 im_obj cd_obj hl.1 d_Clerk_init_1 (Nat.le_of_ble_eq_true rfl) (Nat.le_of_ble_eq_true rfl) ?_
  refine lv_aload_n hx hb d_Clerk_init_4 rfl (lv_at hl 0 rfl) ?_
  refine lv_iconst (v := 0) hx hb d_Clerk_init_5 (by decide) ?_
  refine fp_Clerk_7 X hK hw hq rfl rfl d_Clerk_init_6 (fun f1 H locs ef1 hw => ?_)
  have hq : f1 q = some (eK 0 0 0 0 none) := by rw [ef1]; exact wd_us
  refine lv_aload_n hx hb d_Clerk_init_9 rfl (lv_at hl 0 rfl) ?_
  refine lv_iconst (v := 0) hx hb d_Clerk_init_10 (by decide) ?_
  refine fp_Clerk_13 X hK hw hq rfl rfl d_Clerk_init_11 (fun f2 H locs ef2 hw => ?_)
  have hq : f2 q = some (eK 0 0 0 0 none) := by rw [ef2]; exact wd_us
  refine lv_aload_n hx hb d_Clerk_init_14 rfl (lv_at hl 0 rfl) ?_
  refine lv_iconst (v := 0) hx hb d_Clerk_init_15 (by decide) ?_
  refine fp_Clerk_17 X hK hw hq rfl rfl d_Clerk_init_16 (fun f3 H locs ef3 hw => ?_)
  have hq : f3 q = some (eK 0 0 0 0 none) := by rw [ef3]; exact wd_us
  refine lv_aload_n hx hb d_Clerk_init_19 rfl (lv_at hl 0 rfl) ?_
  refine lv_null hx hb d_Clerk_init_20 ?_
  refine fp_Clerk_20 X hK hw hq rfl rfl d_Clerk_init_21 (fun f4 H locs ef4 hw => ?_)
  have hq : f4 q = some (eK 0 0 0 0 none) := by rw [ef4]; exact wd_us
  refine lv_aload_n hx hb d_Clerk_init_24 rfl (lv_at hl 0 rfl) ?_
  refine lv_iload_n hx hb d_Clerk_init_25 rfl (lv_at hl 1 rfl) ?_
  refine fp_Clerk_24 X hK hw hnm hq rfl rfl d_Clerk_init_26 (fun f5 H locs ef5 hw => ?_)
  have hq : f5 q = some (eK n 0 0 0 none) := by rw [ef5]; exact wd_us
  exact ret _ _ _ _ _ d_Clerk_init_29 hw (by rw [ef5, ef4, ef3, ef2, ef1]; (try simp only [wd_uu]); try rfl)

abbrev rm_Turn_init : Room := { frames := 1, cells := 0, slots := 0, locals := 12 }
set_option maxHeartbeats 4000000 in
set_option maxRecDepth 100000 in
theorem c_Turn_init {l : Launch} {D : va_G} {ca : Nat → ClassId} {f : wd_M} {sz : Nat} (q : Nat) (hq : f q = some (eT 0 0 0 none 0)) (b : Nat) (kn ki ko ks : Int32) (kt : Option Nat) (hk : f b = some (eK kn ki ko ks kt)) (pn : Int32) (ea : Option Nat) : Met l y_Turn_init (.code y_Turn_init b_Turn_init 4 none :: tb) rm_Turn_init (va_Pc [.ref q, .int pn, .ref b, va_rf ea] (wd_preZ D classes (ty ca) f sz)) (va_Qv (fun f' => f' = wd_up f q (eT pn kn ko ea (-1))) (wd_B D classes f sz) (wd_A f sz)) 0 0 (wd_A f sz) := by
  refine wd_Qv (own := R_Turn) (by decide) rfl (by cases ea <;> exact Nat.le_of_ble_eq_true rfl) ?_
  intro p e s m args below meth c Q X hK hnm hw ret ls hl
  have hx := X.1
  have hb := X.2.1
  have hown := X.2.2.2.1
  have hts := X.2.2.2.2
  have hl : lv_has ls 4 [(0, .ref q), (1, .int pn), (2, .ref b), (3, va_rf ea)] := hl
  refine lv_aload_n hx hb d_Turn_init_0 rfl (lv_at hl 0 rfl) ?_
  refine wd_obj X ml_Turn_3 im_obj cd_obj hl.1 d_Turn_init_1 (Nat.le_of_ble_eq_true rfl) (Nat.le_of_ble_eq_true rfl) ?_
  refine lv_aload_n hx hb d_Turn_init_4 rfl (lv_at hl 0 rfl) ?_
  refine lv_iconst (v := (-1)) hx hb d_Turn_init_5 (by decide) ?_
  refine fp_Turn_9 X hK hw hq rfl rfl d_Turn_init_6 (fun f1 H locs ef1 hw => ?_)
  have hk : f1 b = some (eK kn ki ko ks kt) := by rw [ef1, wd_un (wd_ne hk hq (by decide))]; exact hk
  have hq : f1 q = some (eT 0 0 0 none (-1)) := by rw [ef1]; exact wd_us
  refine lv_aload_n hx hb d_Turn_init_9 rfl (lv_at hl 0 rfl) ?_
  refine lv_iload_n hx hb d_Turn_init_10 rfl (lv_at hl 1 rfl) ?_
  refine fp_Turn_15 X hK hw hnm hq rfl rfl d_Turn_init_11 (fun f2 H locs ef2 hw => ?_)
  have hk : f2 b = some (eK kn ki ko ks kt) := by rw [ef2, wd_un (wd_ne hk hq (by decide))]; exact hk
  have hq : f2 q = some (eT pn 0 0 none (-1)) := by rw [ef2]; exact wd_us
  refine lv_aload_n hx hb d_Turn_init_14 rfl (lv_at hl 0 rfl) ?_
  refine lv_aload_n hx hb d_Turn_init_15 rfl (lv_at hl 2 rfl) ?_
  refine fg_Turn_18 X hK hw hk d_Turn_init_16 ?_
  refine fp_Turn_23 X hK hw hnm hq rfl rfl d_Turn_init_19 (fun f3 H locs ef3 hw => ?_)
  have hk : f3 b = some (eK kn ki ko ks kt) := by rw [ef3, wd_un (wd_ne hk hq (by decide))]; exact hk
  have hq : f3 q = some (eT pn kn 0 none (-1)) := by rw [ef3]; exact wd_us
  refine lv_aload_n hx hb d_Turn_init_22 rfl (lv_at hl 0 rfl) ?_
  refine lv_aload_n hx hb d_Turn_init_23 rfl (lv_at hl 2 rfl) ?_
  refine fg_Turn_26 X hK hw hk d_Turn_init_24 ?_
  refine fp_Turn_29 X hK hw hnm hq rfl rfl d_Turn_init_27 (fun f4 H locs ef4 hw => ?_)
  have hk : f4 b = some (eK kn ki ko ks kt) := by rw [ef4, wd_un (wd_ne hk hq (by decide))]; exact hk
  have hq : f4 q = some (eT pn kn ko none (-1)) := by rw [ef4]; exact wd_us
  refine lv_aload_n hx hb d_Turn_init_30 rfl (lv_at hl 0 rfl) ?_
  refine wd_aload_n hx hb d_Turn_init_31 rfl (lv_at hl 3 rfl) ?_
  refine fp_Turn_30 X hK hw hnm hq (wd_nar _) (wd_fit _) d_Turn_init_32 (fun f5 H locs ef5 hw => ?_)
  have hk : f5 b = some (eK kn ki ko ks kt) := by rw [ef5, wd_un (wd_ne hk hq (by decide))]; exact hk
  have hq : f5 q = some (eT pn kn ko ea (-1)) := by rw [ef5]; exact wd_us
  exact ret _ _ _ _ _ d_Turn_init_35 hw (by rw [ef5, ef4, ef3, ef2, ef1]; (try simp only [wd_uu]); try rfl)

abbrev rm_Picture_init : Room := { frames := 1, cells := 0, slots := 0, locals := 12 }
set_option maxHeartbeats 4000000 in
set_option maxRecDepth 100000 in
theorem c_Picture_init {l : Launch} {D : va_G} {ca : Nat → ClassId} {f : wd_M} {sz : Nat} (q : Nat) (hq : f q = some (eP 0 0 0 0 0 0 0 none)) (no : Int32) (du : Int64) (sk : Int32) : Met l y_Picture_init (.code y_Picture_init b_Picture_init 5 none :: tb) rm_Picture_init (va_Pc [.ref q, .int no, .long du, .int sk] (wd_preZ D classes (ty ca) f sz)) (va_Qv (fun f' => f' = wd_up f q (eP no du sk 2 0 0 0 none)) (wd_B D classes f sz) (wd_A f sz)) 0 0 (wd_A f sz) := by
  refine wd_Qv (own := R_Picture) (by decide) rfl (Nat.le_of_ble_eq_true rfl) ?_
  intro p e s m args below meth c Q X hK hnm hw ret ls hl
  have hx := X.1
  have hb := X.2.1
  have hown := X.2.2.2.1
  have hts := X.2.2.2.2
  have hl : lv_has ls 5 [(0, .ref q), (1, .int no), (2, .long du), (4, .int sk)] := hl
  refine lv_aload_n hx hb d_Picture_init_0 rfl (lv_at hl 0 rfl) ?_
  refine wd_obj X ml_Picture_3 im_obj cd_obj hl.1 d_Picture_init_1 (Nat.le_of_ble_eq_true rfl) (Nat.le_of_ble_eq_true rfl) ?_
  refine lv_aload_n hx hb d_Picture_init_4 rfl (lv_at hl 0 rfl) ?_
  refine lv_iconst (v := 2) hx hb d_Picture_init_5 (by decide) ?_
  refine fp_Picture_9 X hK hw hq rfl rfl d_Picture_init_6 (fun f1 H locs ef1 hw => ?_)
  have hq : f1 q = some (eP 0 0 0 2 0 0 0 none) := by rw [ef1]; exact wd_us
  refine lv_aload_n hx hb d_Picture_init_9 rfl (lv_at hl 0 rfl) ?_
  refine lv_iconst (v := 0) hx hb d_Picture_init_10 (by decide) ?_
  refine fp_Picture_15 X hK hw hq rfl rfl d_Picture_init_11 (fun f2 H locs ef2 hw => ?_)
  have hq : f2 q = some (eP 0 0 0 2 0 0 0 none) := by rw [ef2]; exact wd_us
  refine lv_aload_n hx hb d_Picture_init_14 rfl (lv_at hl 0 rfl) ?_
  refine lv_iconst (v := 0) hx hb d_Picture_init_15 (by decide) ?_
  refine fp_Picture_18 X hK hw hq rfl rfl d_Picture_init_16 (fun f3 H locs ef3 hw => ?_)
  have hq : f3 q = some (eP 0 0 0 2 0 0 0 none) := by rw [ef3]; exact wd_us
  refine lv_aload_n hx hb d_Picture_init_19 rfl (lv_at hl 0 rfl) ?_
  refine lv_iconst (v := 0) hx hb d_Picture_init_20 (by decide) ?_
  refine fp_Picture_21 X hK hw hq rfl rfl d_Picture_init_21 (fun f4 H locs ef4 hw => ?_)
  have hq : f4 q = some (eP 0 0 0 2 0 0 0 none) := by rw [ef4]; exact wd_us
  refine lv_aload_n hx hb d_Picture_init_24 rfl (lv_at hl 0 rfl) ?_
  refine lv_null hx hb d_Picture_init_25 ?_
  refine fp_Picture_24 X hK hw hq rfl rfl d_Picture_init_26 (fun f5 H locs ef5 hw => ?_)
  have hq : f5 q = some (eP 0 0 0 2 0 0 0 none) := by rw [ef5]; exact wd_us
  refine lv_aload_n hx hb d_Picture_init_29 rfl (lv_at hl 0 rfl) ?_
  refine lv_iload_n hx hb d_Picture_init_30 rfl (lv_at hl 1 rfl) ?_
  refine fp_Picture_28 X hK hw hnm hq rfl rfl d_Picture_init_31 (fun f6 H locs ef6 hw => ?_)
  have hq : f6 q = some (eP no 0 0 2 0 0 0 none) := by rw [ef6]; exact wd_us
  refine lv_aload_n hx hb d_Picture_init_34 rfl (lv_at hl 0 rfl) ?_
  refine lv_lload_n hx hb d_Picture_init_35 rfl (lv_at hl 2 rfl) ?_
  refine fp_Picture_31 X hK hw hnm hq rfl rfl d_Picture_init_36 (fun f7 H locs ef7 hw => ?_)
  have hq : f7 q = some (eP no du 0 2 0 0 0 none) := by rw [ef7]; exact wd_us
  refine lv_aload_n hx hb d_Picture_init_39 rfl (lv_at hl 0 rfl) ?_
  refine lv_iload hx hb d_Picture_init_40 (lv_at hl 3 rfl) ?_
  refine fp_Picture_35 X hK hw hnm hq rfl rfl d_Picture_init_42 (fun f8 H locs ef8 hw => ?_)
  have hq : f8 q = some (eP no du sk 2 0 0 0 none) := by rw [ef8]; exact wd_us
  exact ret _ _ _ _ _ d_Picture_init_45 hw (by rw [ef8, ef7, ef6, ef5, ef4, ef3, ef2, ef1]; (try simp only [wd_uu]); try rfl)

abbrev rm_Picture_addTurn : Room := { frames := 2, cells := 1, slots := 5, locals := 35 }
set_option maxHeartbeats 4000000 in
set_option maxRecDepth 100000 in
theorem c_Picture_addTurn {l : Launch} {D : va_G} {ca : Nat → ClassId} {f : wd_M} {sz : Nat} (a : Nat) (no : Int32) (du : Int64) (sk wa an en sw : Int32) (la : Option Nat) (ha : f a = some (eP no du sk wa an en sw la)) (b : Nat) (kn ki ko ks : Int32) (kt : Option Nat) (hk : f b = some (eK kn ki ko ks kt)) : Met l y_Picture_addTurn (.code y_Picture_addTurn b_Picture_addTurn 2 (some (.object "ClerkRows$Turn")) :: tb) rm_Picture_addTurn (va_Pc [.ref a, .ref b] (wd_preZ D classes (ty ca) f sz)) (va_Qq (fun r f' => ∃ q : Nat, r = some q ∧ f q = none ∧ f' = wd_up (wd_up f q (eT no kn ko la (-1))) a (eP no du sk wa an en sw (some q))) (wd_B D classes f sz) (wd_A f sz)) 1 5 (wd_A f sz) := by
  refine wd_Qq (own := R_Picture) (by decide) rfl (Nat.le_of_ble_eq_true rfl) ?_
  intro p e s m args below meth c Q X hK hw ret ls hl
  have hx := X.1
  have hb := X.2.1
  have hown := X.2.2.2.1
  have hts := X.2.2.2.2
  have hl : lv_has ls 2 [(0, .ref a), (1, .ref b)] := hl
  refine lv_aload_n hx hb d_Picture_addTurn_0 rfl (lv_at hl 0 rfl) ?_
  refine nw_Picture_52 X hK hw (Nat.le_of_ble_eq_true rfl) (Nat.le_of_ble_eq_true rfl) d_Picture_addTurn_1 (fun q1 f2 H eq1 hq1 ef2 hw => ?_)
  have ha : f2 a = some (eP no du sk wa an en sw la) := by rw [ef2, wd_un (wd_neF ha hq1)]; exact ha
  have hk : f2 b = some (eK kn ki ko ks kt) := by rw [ef2, wd_un (wd_neF hk hq1)]; exact hk
  have h_q1 : f2 q1 = some (eT 0 0 0 none 0) := by rw [ef2]; exact wd_us
  refine lv_dup hx hb d_Picture_addTurn_4 rfl ?_
  refine lv_aload_n hx hb d_Picture_addTurn_5 rfl (lv_at hl 0 rfl) ?_
  refine fg_Picture_28 X hK hw ha d_Picture_addTurn_6 ?_
  refine lv_aload_n hx hb d_Picture_addTurn_9 rfl (lv_at hl 1 rfl) ?_
  refine lv_aload_n hx hb d_Picture_addTurn_10 rfl (lv_at hl 0 rfl) ?_
  refine fg_Picture_24 X hK hw ha d_Picture_addTurn_11 ?_
  refine wd_mI (As := [.int no, .ref b, va_rf la]) (rest := [.ref q1, .ref a]) X hK hw (c_Turn_init q1 h_q1 b kn ki ko ks kt hk no la) (cw_Picture_54 hts rfl rfl ⟨(Nat.le_of_ble_eq_true rfl), (Nat.le_of_ble_eq_true rfl)⟩) rfl hl.1 rfl (Nat.le_of_ble_eq_true rfl) d_Picture_addTurn_14 ⟨(Nat.le_of_ble_eq_true rfl), (Nat.le_of_ble_eq_true rfl)⟩ (fun f3 H locs ef3 hw => ?_)
  have ha : f3 a = some (eP no du sk wa an en sw la) := by rw [ef3, wd_un (wd_ne ha h_q1 (by decide))]; exact ha
  have hk : f3 b = some (eK kn ki ko ks kt) := by rw [ef3, wd_un (wd_ne hk h_q1 (by decide))]; exact hk
  have h_q1 : f3 q1 = some (eT no kn ko la (-1)) := by rw [ef3]; exact wd_us
  refine fp_Picture_24 X hK hw ha rfl rfl d_Picture_addTurn_17 (fun f4 H locs ef4 hw => ?_)
  have hk : f4 b = some (eK kn ki ko ks kt) := by rw [ef4, wd_un (wd_ne hk ha (by decide))]; exact hk
  have h_q1 : f4 q1 = some (eT no kn ko la (-1)) := by rw [ef4, wd_un (wd_ne h_q1 ha (by decide))]; exact h_q1
  have ha : f4 a = some (eP no du sk wa an en sw (some q1)) := by rw [ef4]; exact wd_us
  refine lv_aload_n hx hb d_Picture_addTurn_20 rfl (lv_at hl 0 rfl) ?_
  refine fg_Picture_24 X hK hw ha d_Picture_addTurn_21 ?_
  exact ret _ _ (some q1) _ _ _ _ d_Picture_addTurn_24 rfl hw ⟨q1, rfl, hq1, by rw [ef4, ef3, ef2]; (try simp only [wd_uu]); rfl⟩

abbrev rm_Picture_takeEntry : Room := { frames := 1, cells := 0, slots := 0, locals := 22 }
set_option maxHeartbeats 4000000 in
set_option maxRecDepth 100000 in
theorem c_Picture_takeEntry {l : Launch} {D : va_G} {ca : Nat → ClassId} {f : wd_M} {sz : Nat} (a : Nat) (no : Int32) (du : Int64) (sk wa an en sw : Int32) (la : Option Nat) (ha : f a = some (eP no du sk wa an en sw la)) (L : List TR) (hL : cx f no L la) (tq : Nat) (ck to : Int32) (ea : Option Nat) (te : Int32) (ht : f tq = some (eT no ck to ea te)) (x : Int32) : Met l y_Picture_takeEntry (.code y_Picture_takeEntry b_Picture_takeEntry 4 none :: tb) rm_Picture_takeEntry (va_Pc [.ref a, .ref tq, .int x] (wd_preZ D classes (ty ca) f sz)) (va_Qv (fun f' => f' = wd_up (wd_up f tq (eT no ck to ea x)) a (eP no du sk (tE wa (an + 1) en sw x (hasE x L)).1 (an + 1) (tE wa (an + 1) en sw x (hasE x L)).2.1 (tE wa (an + 1) en sw x (hasE x L)).2.2 la)) (wd_B D classes f sz) (wd_A f sz)) 0 0 (wd_A f sz) := by
  refine wd_Qv (own := R_Picture) (by decide) rfl (Nat.le_of_ble_eq_true rfl) ?_
  intro p e s m args below meth c Q X hK hnm hw ret ls hl
  have hx := X.1
  have hb := X.2.1
  have hown := X.2.2.2.1
  have hts := X.2.2.2.2
  have hl : lv_has ls 4 [(0, .ref a), (1, .ref tq), (2, .int x)] := hl
  refine lv_aload_n hx hb d_Picture_takeEntry_0 rfl (lv_at hl 0 rfl) ?_
  refine lv_iload_n hx hb d_Picture_takeEntry_1 rfl (lv_at hl 2 rfl) ?_
  refine wd_cvi (As := [.int x]) (rest := []) X hK hw (c_Picture_hasEntry a no du sk wa an en sw la ha L hL x) (cw_Picture_57 hts rfl rfl ⟨(Nat.le_of_ble_eq_true rfl), (Nat.le_of_ble_eq_true rfl)⟩) ha rfl rfl rfl hl.1 rfl (Nat.le_of_ble_eq_true rfl) d_Picture_takeEntry_2 ⟨(Nat.le_of_ble_eq_true rfl), (Nat.le_of_ble_eq_true rfl)⟩ (fun r hz => ?_)
  rcases hz with ⟨z1, rfl⟩ | ⟨z1, rfl⟩
  · skip
    refine lv_istore_n (lv' := [(3, .int 1), (0, .ref a), (1, .ref tq), (2, .int x)]) hx hb d_Picture_takeEntry_5 rfl hl (by decide) rfl (fun ls hl => ?_)
    refine lv_aload_n hx hb d_Picture_takeEntry_6 rfl (lv_at hl 2 rfl) ?_
    refine lv_iload_n hx hb d_Picture_takeEntry_7 rfl (lv_at hl 3 rfl) ?_
    refine fp_Picture_61 X hK hw ht rfl rfl d_Picture_takeEntry_8 (fun f2 H locs ef2 hw => ?_)
    have ha : f2 a = some (eP no du sk wa an en sw la) := by rw [ef2, wd_un (wd_ne ha ht (by decide))]; exact ha
    have ht : f2 tq = some (eT no ck to ea x) := by rw [ef2]; exact wd_us
    refine lv_aload_n hx hb d_Picture_takeEntry_11 rfl (lv_at hl 1 rfl) ?_
    refine lv_dup hx hb d_Picture_takeEntry_12 rfl ?_
    refine fg_Picture_15 X hK hw ha d_Picture_takeEntry_13 ?_
    refine lv_iconst (v := 1) hx hb d_Picture_takeEntry_16 (by decide) ?_
    refine lv_iadd hx hb d_Picture_takeEntry_17 ?_
    refine fp_Picture_15 X hK hw ha rfl rfl d_Picture_takeEntry_18 (fun f3 H locs ef3 hw => ?_)
    have ht : f3 tq = some (eT no ck to ea x) := by rw [ef3, wd_un (wd_ne ht ha (by decide))]; exact ht
    have ha : f3 a = some (eP no du sk wa (an + 1) en sw la) := by rw [ef3]; exact wd_us
    refine lv_aload_n hx hb d_Picture_takeEntry_21 rfl (lv_at hl 1 rfl) ?_
    refine wd_cvi (As := []) (rest := []) X hK hw (c_Picture_hasEnded a no du sk wa (an + 1) en sw la ha) (cw_Picture_38 hts rfl rfl ⟨(Nat.le_of_ble_eq_true rfl), (Nat.le_of_ble_eq_true rfl)⟩) ha rfl rfl rfl hl.1 rfl (Nat.le_of_ble_eq_true rfl) d_Picture_takeEntry_22 ⟨(Nat.le_of_ble_eq_true rfl), (Nat.le_of_ble_eq_true rfl)⟩ (fun r hz => ?_)
    rcases hz with ⟨z4, rfl⟩ | ⟨z4, rfl⟩
    · skip
      refine lv_if_eq (tgt := 29) hx hb d_Picture_takeEntry_25 (by decide) (fun c5 => ?_) (fun c5 => ?_)
      · exact absurd c5 (by decide)
      · skip
        exact ret _ _ _ _ _ d_Picture_takeEntry_28 hw (by rw [ef3, ef2]; (try simp only [wd_uu]); simp [tE, z1, z4])
    · skip
      refine lv_if_eq (tgt := 29) hx hb d_Picture_takeEntry_25 (by decide) (fun c6 => ?_) (fun c6 => ?_)
      · skip
        refine lv_iload_n hx hb d_Picture_takeEntry_29 rfl (lv_at hl 0 rfl) ?_
        refine lv_if_eq (tgt := 41) hx hb d_Picture_takeEntry_30 (by decide) (fun c7 => ?_) (fun c7 => ?_)
        · exact absurd c7 (by decide)
        · skip
          refine lv_aload_n hx hb d_Picture_takeEntry_33 rfl (lv_at hl 1 rfl) ?_
          refine lv_iload_n hx hb d_Picture_takeEntry_34 rfl (lv_at hl 3 rfl) ?_
          refine wd_mvv (As := [.int x]) (rest := []) X hK hw (c_Picture_endAlike a no du sk wa (an + 1) en sw la ha x) (cw_Picture_64 hts rfl rfl ⟨(Nat.le_of_ble_eq_true rfl), (Nat.le_of_ble_eq_true rfl)⟩) ha rfl rfl rfl hl.1 rfl (Nat.le_of_ble_eq_true rfl) d_Picture_takeEntry_35 ⟨(Nat.le_of_ble_eq_true rfl), (Nat.le_of_ble_eq_true rfl)⟩ (fun f8 H locs ef8 hw => ?_)
          have ht : f8 tq = some (eT no ck to ea x) := by rw [ef8, wd_un (wd_ne ht ha (by decide))]; exact ht
          have ha : f8 a = some (eP no du sk wa (an + 1) (if x = 0 then 3 else 2) (if x = 0 then sw else x) la) := by rw [ef8]; exact wd_us
          refine lv_goto (tgt := 70) hx hb d_Picture_takeEntry_38 (by decide) ?_
          exact ret _ _ _ _ _ d_Picture_takeEntry_70 hw (by rw [ef8, ef3, ef2]; (try simp only [wd_uu]); simp [tE, z1, Decidable.not_not.mp z4])
      · exact absurd c6 (by decide)
  · skip
    refine lv_istore_n (lv' := [(3, .int 0), (0, .ref a), (1, .ref tq), (2, .int x)]) hx hb d_Picture_takeEntry_5 rfl hl (by decide) rfl (fun ls hl => ?_)
    refine lv_aload_n hx hb d_Picture_takeEntry_6 rfl (lv_at hl 2 rfl) ?_
    refine lv_iload_n hx hb d_Picture_takeEntry_7 rfl (lv_at hl 3 rfl) ?_
    refine fp_Picture_61 X hK hw ht rfl rfl d_Picture_takeEntry_8 (fun f9 H locs ef9 hw => ?_)
    have ha : f9 a = some (eP no du sk wa an en sw la) := by rw [ef9, wd_un (wd_ne ha ht (by decide))]; exact ha
    have ht : f9 tq = some (eT no ck to ea x) := by rw [ef9]; exact wd_us
    refine lv_aload_n hx hb d_Picture_takeEntry_11 rfl (lv_at hl 1 rfl) ?_
    refine lv_dup hx hb d_Picture_takeEntry_12 rfl ?_
    refine fg_Picture_15 X hK hw ha d_Picture_takeEntry_13 ?_
    refine lv_iconst (v := 1) hx hb d_Picture_takeEntry_16 (by decide) ?_
    refine lv_iadd hx hb d_Picture_takeEntry_17 ?_
    refine fp_Picture_15 X hK hw ha rfl rfl d_Picture_takeEntry_18 (fun f10 H locs ef10 hw => ?_)
    have ht : f10 tq = some (eT no ck to ea x) := by rw [ef10, wd_un (wd_ne ht ha (by decide))]; exact ht
    have ha : f10 a = some (eP no du sk wa (an + 1) en sw la) := by rw [ef10]; exact wd_us
    refine lv_aload_n hx hb d_Picture_takeEntry_21 rfl (lv_at hl 1 rfl) ?_
    refine wd_cvi (As := []) (rest := []) X hK hw (c_Picture_hasEnded a no du sk wa (an + 1) en sw la ha) (cw_Picture_38 hts rfl rfl ⟨(Nat.le_of_ble_eq_true rfl), (Nat.le_of_ble_eq_true rfl)⟩) ha rfl rfl rfl hl.1 rfl (Nat.le_of_ble_eq_true rfl) d_Picture_takeEntry_22 ⟨(Nat.le_of_ble_eq_true rfl), (Nat.le_of_ble_eq_true rfl)⟩ (fun r hz => ?_)
    rcases hz with ⟨z11, rfl⟩ | ⟨z11, rfl⟩
    · skip
      refine lv_if_eq (tgt := 29) hx hb d_Picture_takeEntry_25 (by decide) (fun c12 => ?_) (fun c12 => ?_)
      · exact absurd c12 (by decide)
      · skip
        exact ret _ _ _ _ _ d_Picture_takeEntry_28 hw (by rw [ef10, ef9]; (try simp only [wd_uu]); simp [tE, z1, z11])
    · skip
      refine lv_if_eq (tgt := 29) hx hb d_Picture_takeEntry_25 (by decide) (fun c13 => ?_) (fun c13 => ?_)
      · skip
        refine lv_iload_n hx hb d_Picture_takeEntry_29 rfl (lv_at hl 0 rfl) ?_
        refine lv_if_eq (tgt := 41) hx hb d_Picture_takeEntry_30 (by decide) (fun c14 => ?_) (fun c14 => ?_)
        · skip
          refine lv_aload_n hx hb d_Picture_takeEntry_41 rfl (lv_at hl 1 rfl) ?_
          refine fg_Picture_15 X hK hw ha d_Picture_takeEntry_42 ?_
          refine lv_iconst (v := 2) hx hb d_Picture_takeEntry_45 (by decide) ?_
          refine lv_icmp_ne (tgt := 57) hx hb d_Picture_takeEntry_46 (by decide) (fun c15 => ?_) (fun c15 => ?_)
          · skip
            refine lv_aload_n hx hb d_Picture_takeEntry_57 rfl (lv_at hl 1 rfl) ?_
            refine fg_Picture_15 X hK hw ha d_Picture_takeEntry_58 ?_
            refine lv_iconst (v := 2) hx hb d_Picture_takeEntry_61 (by decide) ?_
            refine lv_icmp_le (tgt := 70) hx hb d_Picture_takeEntry_62 (by decide) (fun c16 => ?_) (fun c16 => ?_)
            · skip
              exact ret _ _ _ _ _ d_Picture_takeEntry_70 hw (by rw [ef10, ef9]; (try simp only [wd_uu]); simp [tE, z1, Decidable.not_not.mp z11, c15, c16])
            · skip
              refine lv_aload_n hx hb d_Picture_takeEntry_65 rfl (lv_at hl 1 rfl) ?_
              refine lv_iconst (v := 3) hx hb d_Picture_takeEntry_66 (by decide) ?_
              refine fp_Picture_18 X hK hw ha rfl rfl d_Picture_takeEntry_67 (fun f17 H locs ef17 hw => ?_)
              have ht : f17 tq = some (eT no ck to ea x) := by rw [ef17, wd_un (wd_ne ht ha (by decide))]; exact ht
              have ha : f17 a = some (eP no du sk wa (an + 1) 3 sw la) := by rw [ef17]; exact wd_us
              exact ret _ _ _ _ _ d_Picture_takeEntry_70 hw (by rw [ef17, ef10, ef9]; (try simp only [wd_uu]); simp [tE, z1, Decidable.not_not.mp z11, c15, c16])
          · skip
            refine lv_aload_n hx hb d_Picture_takeEntry_49 rfl (lv_at hl 1 rfl) ?_
            refine lv_iconst (v := 3) hx hb d_Picture_takeEntry_50 (by decide) ?_
            refine fp_Picture_9 X hK hw ha rfl rfl d_Picture_takeEntry_51 (fun f18 H locs ef18 hw => ?_)
            have ht : f18 tq = some (eT no ck to ea x) := by rw [ef18, wd_un (wd_ne ht ha (by decide))]; exact ht
            have ha : f18 a = some (eP no du sk 3 (an + 1) en sw la) := by rw [ef18]; exact wd_us
            refine lv_goto (tgt := 70) hx hb d_Picture_takeEntry_54 (by decide) ?_
            exact ret _ _ _ _ _ d_Picture_takeEntry_70 hw (by rw [ef18, ef10, ef9]; (try simp only [wd_uu]); simp [tE, z1, Decidable.not_not.mp z11, c15])
        · exact absurd c14 (by decide)
      · exact absurd c13 (by decide)

