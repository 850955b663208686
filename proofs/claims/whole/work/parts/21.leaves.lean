abbrev rm_ClerkRows_isWithin : Room := { frames := 0, cells := 0, slots := 0, locals := 0 }
set_option maxHeartbeats 4000000 in
set_option maxRecDepth 100000 in
theorem c_ClerkRows_isWithin {l : Launch} {D : va_G} {ca : Nat → ClassId} {f : wd_M} (x y : Int32) : Met l y_ClerkRows_isWithin (.code y_ClerkRows_isWithin b_ClerkRows_isWithin 2 (some .boolean) :: tb) rm_ClerkRows_isWithin (va_Pc [.int x, .int y] (wd_pre D classes (ty ca) f)) (vp_Si (zb (wi x y))) 0 0 (fun _ => False) := by
  refine wd_Sz (own := R_ClerkRows) (by decide) rfl (Nat.le_of_ble_eq_true rfl) ?_
  intro p e s m args below meth c Q X hK hw ret ls hl
  have hx := X.1
  have hb := X.2.1
  have hown := X.2.2.2.1
  have hts := X.2.2.2.2
  have hl : lv_has ls 2 [(0, .int x), (1, .int y)] := hl
  refine lv_iload_n hx hb d_ClerkRows_isWithin_0 rfl (lv_at hl 0 rfl) ?_
  refine lv_if_lt (tgt := 13) hx hb d_ClerkRows_isWithin_1 (by decide) (fun c1 => ?_) (fun c1 => ?_)
  · skip
    refine lv_iconst (v := 0) hx hb d_ClerkRows_isWithin_13 (by decide) ?_
    exact ret _ _ _ d_ClerkRows_isWithin_14 rfl (Or.inr ⟨fun h => h.1 c1, rfl⟩)
  · skip
    refine lv_iload_n hx hb d_ClerkRows_isWithin_4 rfl (lv_at hl 0 rfl) ?_
    refine lv_iload_n hx hb d_ClerkRows_isWithin_5 rfl (lv_at hl 1 rfl) ?_
    refine lv_icmp_gt (tgt := 13) hx hb d_ClerkRows_isWithin_6 (by decide) (fun c2 => ?_) (fun c2 => ?_)
    · skip
      refine lv_iconst (v := 0) hx hb d_ClerkRows_isWithin_13 (by decide) ?_
      exact ret _ _ _ d_ClerkRows_isWithin_14 rfl (Or.inr ⟨fun h => h.2 c2, rfl⟩)
    · skip
      refine lv_iconst (v := 1) hx hb d_ClerkRows_isWithin_9 (by decide) ?_
      refine lv_goto (tgt := 14) hx hb d_ClerkRows_isWithin_10 (by decide) ?_
      exact ret _ _ _ d_ClerkRows_isWithin_14 rfl (Or.inl ⟨⟨c1, c2⟩, rfl⟩)

abbrev rm_ClerkRows_isTime : Room := { frames := 0, cells := 0, slots := 0, locals := 0 }
set_option maxHeartbeats 4000000 in
set_option maxRecDepth 100000 in
theorem c_ClerkRows_isTime {l : Launch} {D : va_G} {ca : Nat → ClassId} {f : wd_M} (a : Nat) (mo : Int32) (pa ka : Nat) (md : Int32) (nw : Int64) (lt : Int32) (ha : f a = some (eR mo pa ka md nw lt)) (t : Int64) : Met l y_ClerkRows_isTime (.code y_ClerkRows_isTime b_ClerkRows_isTime 3 (some .boolean) :: tb) rm_ClerkRows_isTime (va_Pc [.ref a, .long t] (wd_pre D classes (ty ca) f)) (vp_Si (zb (isT nw t))) 0 0 (fun _ => False) := by
  refine wd_Sz (own := R_ClerkRows) (by decide) rfl (Nat.le_of_ble_eq_true rfl) ?_
  intro p e s m args below meth c Q X hK hw ret ls hl
  have hx := X.1
  have hb := X.2.1
  have hown := X.2.2.2.1
  have hts := X.2.2.2.2
  have hl : lv_has ls 3 [(0, .ref a), (1, .long t)] := hl
  refine lv_lload_n hx hb d_ClerkRows_isTime_0 rfl (lv_at hl 1 rfl) ?_
  refine lv_aload_n hx hb d_ClerkRows_isTime_1 rfl (lv_at hl 0 rfl) ?_
  refine fg_ClerkRows_25 X hK hw ha d_ClerkRows_isTime_2 ?_
  refine W.lcmp hx hb d_ClerkRows_isTime_5 ?_
  refine lv_if_lt (tgt := 21) hx hb d_ClerkRows_isTime_6 (by decide) (fun c1 => ?_) (fun c1 => ?_)
  · skip
    refine lv_iconst (v := 0) hx hb d_ClerkRows_isTime_21 (by decide) ?_
    exact ret _ _ _ d_ClerkRows_isTime_22 rfl (Or.inr ⟨fun h => h.1 ((lg_cmp_lt _ _).mp c1), rfl⟩)
  · skip
    refine lv_lload_n hx hb d_ClerkRows_isTime_9 rfl (lv_at hl 1 rfl) ?_
    refine lv_ldc2 (v := 1000000000) hx hb hown (hts _ k_ClerkRows_129) d_ClerkRows_isTime_10 ?_
    refine W.lcmp hx hb d_ClerkRows_isTime_13 ?_
    refine lv_if_gt (tgt := 21) hx hb d_ClerkRows_isTime_14 (by decide) (fun c2 => ?_) (fun c2 => ?_)
    · skip
      refine lv_iconst (v := 0) hx hb d_ClerkRows_isTime_21 (by decide) ?_
      exact ret _ _ _ d_ClerkRows_isTime_22 rfl (Or.inr ⟨fun h => h.2 ((lg_cmp_gt _ _).mp c2), rfl⟩)
    · skip
      refine lv_iconst (v := 1) hx hb d_ClerkRows_isTime_17 (by decide) ?_
      refine lv_goto (tgt := 22) hx hb d_ClerkRows_isTime_18 (by decide) ?_
      exact ret _ _ _ d_ClerkRows_isTime_22 rfl (Or.inl ⟨⟨fun h => c1 ((lg_cmp_lt _ _).mpr h), fun h => c2 ((lg_cmp_gt _ _).mpr h)⟩, rfl⟩)

abbrev rm_ClerkRows_findClerk : Room := { frames := 0, cells := 0, slots := 0, locals := 0 }
set_option maxHeartbeats 4000000 in
set_option maxRecDepth 100000 in
theorem c_ClerkRows_findClerk {l : Launch} {D : va_G} {ca : Nat → ClassId} {f : wd_M} (a : Nat) (mo : Int32) (pa ka : Nat) (md : Int32) (nw : Int64) (lt : Int32) (ha : f a = some (eR mo pa ka md nw lt)) (gk : Nat → Option Nat) (hk : f ka = some (eA (ca 1) 20 gk)) (x : Int32) : Met l y_ClerkRows_findClerk (.code y_ClerkRows_findClerk b_ClerkRows_findClerk 2 (some (.object "ClerkRows$Clerk")) :: tb) rm_ClerkRows_findClerk (va_Pc [.ref a, .int x] (wd_pre D classes (ty ca) f)) (va_Sq (fun r => (∃ j : Nat, j < 20 ∧ x = nI j ∧ r = gk j) ∨ (¬ (¬ x < 0 ∧ ¬ 20 ≤ x) ∧ r = none))) 0 0 (fun _ => False) := by
  refine wd_Sq (own := R_ClerkRows) (by decide) rfl (Nat.le_of_ble_eq_true rfl) ?_
  intro p e s m args below meth c Q X hK hw ret ls hl
  have hx := X.1
  have hb := X.2.1
  have hown := X.2.2.2.1
  have hts := X.2.2.2.2
  have hl : lv_has ls 2 [(0, .ref a), (1, .int x)] := hl
  refine lv_iload_n hx hb d_ClerkRows_findClerk_0 rfl (lv_at hl 1 rfl) ?_
  refine lv_if_lt (tgt := 19) hx hb d_ClerkRows_findClerk_1 (by decide) (fun c1 => ?_) (fun c1 => ?_)
  · skip
    refine lv_null hx hb d_ClerkRows_findClerk_19 ?_
    exact ret _ _ none _ d_ClerkRows_findClerk_20 rfl (Or.inr ⟨fun h => h.1 c1, rfl⟩)
  · skip
    refine lv_iload_n hx hb d_ClerkRows_findClerk_4 rfl (lv_at hl 1 rfl) ?_
    refine lv_bipush (v := 20) hx hb d_ClerkRows_findClerk_5 (by decide) ?_
    refine lv_icmp_ge (tgt := 19) hx hb d_ClerkRows_findClerk_7 (by decide) (fun c2 => ?_) (fun c2 => ?_)
    · skip
      refine lv_null hx hb d_ClerkRows_findClerk_19 ?_
      exact ret _ _ none _ d_ClerkRows_findClerk_20 rfl (Or.inr ⟨fun h => h.2 c2, rfl⟩)
    · skip
      refine lv_aload_n hx hb d_ClerkRows_findClerk_10 rfl (lv_at hl 0 rfl) ?_
      refine fg_ClerkRows_17 X hK hw ha d_ClerkRows_findClerk_11 ?_
      refine lv_iload_n hx hb d_ClerkRows_findClerk_14 rfl (lv_at hl 1 rfl) ?_
      obtain ⟨j, hj, rfl⟩ := ok20 c1 c2
      refine wd_aldq X hK hw hk 1 rfl (vp_in_nI hj (by decide)) d_ClerkRows_findClerk_15 ?_
      rw [nI_clamp (Nat.lt_trans hj (by decide))]
      refine lv_goto (tgt := 20) hx hb d_ClerkRows_findClerk_16 (by decide) ?_
      exact ret _ _ (gk j) _ d_ClerkRows_findClerk_20 rfl (Or.inl ⟨j, hj, rfl, rfl⟩)

abbrev rm_ClerkRows_findPicture : Room := { frames := 0, cells := 0, slots := 0, locals := 0 }
set_option maxHeartbeats 4000000 in
set_option maxRecDepth 100000 in
theorem c_ClerkRows_findPicture {l : Launch} {D : va_G} {ca : Nat → ClassId} {f : wd_M} (a : Nat) (mo : Int32) (pa ka : Nat) (md : Int32) (nw : Int64) (lt : Int32) (ha : f a = some (eR mo pa ka md nw lt)) (gp : Nat → Option Nat) (hg : f pa = some (eA (ca 0) 300 gp)) (x : Int32) : Met l y_ClerkRows_findPicture (.code y_ClerkRows_findPicture b_ClerkRows_findPicture 2 (some (.object "ClerkRows$Picture")) :: tb) rm_ClerkRows_findPicture (va_Pc [.ref a, .int x] (wd_pre D classes (ty ca) f)) (va_Sq (fun r => (∃ j : Nat, j < 300 ∧ x = nI (j + 1) ∧ r = gp j) ∨ (¬ (¬ x < 1 ∧ ¬ 300 < x) ∧ r = none))) 0 0 (fun _ => False) := by
  refine wd_Sq (own := R_ClerkRows) (by decide) rfl (Nat.le_of_ble_eq_true rfl) ?_
  intro p e s m args below meth c Q X hK hw ret ls hl
  have hx := X.1
  have hb := X.2.1
  have hown := X.2.2.2.1
  have hts := X.2.2.2.2
  have hl : lv_has ls 2 [(0, .ref a), (1, .int x)] := hl
  refine lv_iload_n hx hb d_ClerkRows_findPicture_0 rfl (lv_at hl 1 rfl) ?_
  refine lv_iconst (v := 1) hx hb d_ClerkRows_findPicture_1 (by decide) ?_
  refine lv_icmp_lt (tgt := 23) hx hb d_ClerkRows_findPicture_2 (by decide) (fun c1 => ?_) (fun c1 => ?_)
  · skip
    refine lv_null hx hb d_ClerkRows_findPicture_23 ?_
    exact ret _ _ none _ d_ClerkRows_findPicture_24 rfl (Or.inr ⟨fun h => h.1 c1, rfl⟩)
  · skip
    refine lv_iload_n hx hb d_ClerkRows_findPicture_5 rfl (lv_at hl 1 rfl) ?_
    refine lv_sipush (v := 300) hx hb d_ClerkRows_findPicture_6 (by decide) ?_
    refine lv_icmp_gt (tgt := 23) hx hb d_ClerkRows_findPicture_9 (by decide) (fun c2 => ?_) (fun c2 => ?_)
    · skip
      refine lv_null hx hb d_ClerkRows_findPicture_23 ?_
      exact ret _ _ none _ d_ClerkRows_findPicture_24 rfl (Or.inr ⟨fun h => h.2 c2, rfl⟩)
    · skip
      refine lv_aload_n hx hb d_ClerkRows_findPicture_12 rfl (lv_at hl 0 rfl) ?_
      refine fg_ClerkRows_11 X hK hw ha d_ClerkRows_findPicture_13 ?_
      refine lv_iload_n hx hb d_ClerkRows_findPicture_16 rfl (lv_at hl 1 rfl) ?_
      refine lv_iconst (v := 1) hx hb d_ClerkRows_findPicture_17 (by decide) ?_
      refine lv_isub hx hb d_ClerkRows_findPicture_18 ?_
      obtain ⟨j, hj, rfl⟩ := ok300 c1 c2
      rw [one_sub j]
      refine wd_aldq X hK hw hg 0 rfl (vp_in_nI hj (by decide)) d_ClerkRows_findPicture_19 ?_
      rw [nI_clamp (Nat.lt_trans hj (by decide))]
      refine lv_goto (tgt := 24) hx hb d_ClerkRows_findPicture_20 (by decide) ?_
      exact ret _ _ (gp j) _ d_ClerkRows_findPicture_24 rfl (Or.inl ⟨j, hj, rfl, rfl⟩)

abbrev rm_Picture_hasEnded : Room := { frames := 0, cells := 0, slots := 0, locals := 0 }
set_option maxHeartbeats 4000000 in
set_option maxRecDepth 100000 in
theorem c_Picture_hasEnded {l : Launch} {D : va_G} {ca : Nat → ClassId} {f : wd_M} (a : Nat) (no : Int32) (du : Int64) (sk wa an en sw : Int32) (la : Option Nat) (ha : f a = some (eP no du sk wa an en sw la)) : Met l y_Picture_hasEnded (.code y_Picture_hasEnded b_Picture_hasEnded 1 (some .boolean) :: tb) rm_Picture_hasEnded (va_Pc [.ref a] (wd_pre D classes (ty ca) f)) (vp_Si (zb (¬ en = 0))) 0 0 (fun _ => False) := by
  refine wd_Sz (own := R_Picture) (by decide) rfl (Nat.le_of_ble_eq_true rfl) ?_
  intro p e s m args below meth c Q X hK hw ret ls hl
  have hx := X.1
  have hb := X.2.1
  have hown := X.2.2.2.1
  have hts := X.2.2.2.2
  have hl : lv_has ls 1 [(0, .ref a)] := hl
  refine lv_aload_n hx hb d_Picture_hasEnded_0 rfl (lv_at hl 0 rfl) ?_
  refine fg_Picture_18 X hK hw ha d_Picture_hasEnded_1 ?_
  refine lv_if_eq (tgt := 11) hx hb d_Picture_hasEnded_4 (by decide) (fun c1 => ?_) (fun c1 => ?_)
  · skip
    refine lv_iconst (v := 0) hx hb d_Picture_hasEnded_11 (by decide) ?_
    exact ret _ _ _ d_Picture_hasEnded_12 rfl (Or.inr ⟨fun h => h c1, rfl⟩)
  · skip
    refine lv_iconst (v := 1) hx hb d_Picture_hasEnded_7 (by decide) ?_
    refine lv_goto (tgt := 12) hx hb d_Picture_hasEnded_8 (by decide) ?_
    exact ret _ _ _ d_Picture_hasEnded_12 rfl (Or.inl ⟨c1, rfl⟩)

abbrev rm_Picture_endAlike : Room := { frames := 0, cells := 0, slots := 0, locals := 0 }
set_option maxHeartbeats 4000000 in
set_option maxRecDepth 100000 in
theorem c_Picture_endAlike {l : Launch} {D : va_G} {ca : Nat → ClassId} {f : wd_M} {sz : Nat} (a : Nat) (no : Int32) (du : Int64) (sk wa an en sw : Int32) (la : Option Nat) (ha : f a = some (eP no du sk wa an en sw la)) (x : Int32) : Met l y_Picture_endAlike (.code y_Picture_endAlike b_Picture_endAlike 2 none :: tb) rm_Picture_endAlike (va_Pc [.ref a, .int x] (wd_preZ D classes (ty ca) f sz)) (va_Qv (fun f' => f' = wd_up f a (eP no du sk wa an (if x = 0 then 3 else 2) (if x = 0 then sw else x) la)) (wd_B D classes f sz) (wd_A f sz)) 0 0 (wd_A f sz) := by
  refine wd_Qv (own := R_Picture) (by decide) rfl (Nat.le_of_ble_eq_true rfl) ?_
  intro p e s m args below meth c Q X hK hnm hw ret ls hl
  have hx := X.1
  have hb := X.2.1
  have hown := X.2.2.2.1
  have hts := X.2.2.2.2
  have hl : lv_has ls 2 [(0, .ref a), (1, .int x)] := hl
  refine lv_iload_n hx hb d_Picture_endAlike_0 rfl (lv_at hl 1 rfl) ?_
  refine lv_if_ne (tgt := 12) hx hb d_Picture_endAlike_1 (by decide) (fun c1 => ?_) (fun c1 => ?_)
  · skip
    refine lv_aload_n hx hb d_Picture_endAlike_12 rfl (lv_at hl 0 rfl) ?_
    refine lv_iconst (v := 2) hx hb d_Picture_endAlike_13 (by decide) ?_
    refine fp_Picture_18 X hK hw ha rfl rfl d_Picture_endAlike_14 (fun f2 H locs ef2 hw => ?_)
    have ha : f2 a = some (eP no du sk wa an 2 sw la) := by rw [ef2]; exact wd_us
    refine lv_aload_n hx hb d_Picture_endAlike_17 rfl (lv_at hl 0 rfl) ?_
    refine lv_iload_n hx hb d_Picture_endAlike_18 rfl (lv_at hl 1 rfl) ?_
    refine fp_Picture_21 X hK hw ha rfl rfl d_Picture_endAlike_19 (fun f3 H locs ef3 hw => ?_)
    have ha : f3 a = some (eP no du sk wa an 2 x la) := by rw [ef3]; exact wd_us
    exact ret _ _ _ _ _ d_Picture_endAlike_22 hw (by rw [if_neg c1, if_neg c1]; exact Eq.trans ef3 (by rw [ef2]; exact wd_uu))
  · skip
    refine lv_aload_n hx hb d_Picture_endAlike_4 rfl (lv_at hl 0 rfl) ?_
    refine lv_iconst (v := 3) hx hb d_Picture_endAlike_5 (by decide) ?_
    refine fp_Picture_18 X hK hw ha rfl rfl d_Picture_endAlike_6 (fun f4 H locs ef4 hw => ?_)
    have ha : f4 a = some (eP no du sk wa an 3 sw la) := by rw [ef4]; exact wd_us
    refine lv_goto (tgt := 22) hx hb d_Picture_endAlike_9 (by decide) ?_
    exact ret _ _ _ _ _ d_Picture_endAlike_22 hw (by rw [if_pos c1, if_pos c1]; exact ef4)

