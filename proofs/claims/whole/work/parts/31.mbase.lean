abbrev rm_Model_isIn : Room := { frames := 0, cells := 0, slots := 0, locals := 0 }
set_option maxHeartbeats 4000000 in
set_option maxRecDepth 100000 in
theorem c_Model_isIn {l : Launch} {D : va_G} {ca : Nat → ClassId} {f : wd_M} (x lo hi : Int64) : Met l y_Model_isIn (.code y_Model_isIn b_Model_isIn 6 (some .boolean) :: tb) rm_Model_isIn (va_Pc [.long x, .long lo, .long hi] (wd_pre D classes (ty ca) f)) (vp_Si (zb (¬ x < lo ∧ ¬ hi < x))) 0 0 (fun _ => False) := by
  refine wd_Sz (own := R_Model) (by decide) rfl (Nat.le_of_ble_eq_true rfl) ?_
  intro p e s m args below meth c Q X hK hw ret ls hl
  have hx := X.1
  have hb := X.2.1
  have hown := X.2.2.2.1
  have hts := X.2.2.2.2
  have hl : lv_has ls 6 [(0, .long x), (2, .long lo), (4, .long hi)] := hl
  refine lv_lload_n hx hb d_Model_isIn_0 rfl (lv_at hl 0 rfl) ?_
  refine lv_lload_n hx hb d_Model_isIn_1 rfl (lv_at hl 1 rfl) ?_
  refine W.lcmp hx hb d_Model_isIn_2 ?_
  refine lv_if_lt (tgt := 17) hx hb d_Model_isIn_3 (by decide) (fun c1 => ?_) (fun c1 => ?_)
  · skip
    refine lv_iconst (v := 0) hx hb d_Model_isIn_17 (by decide) ?_
    exact ret _ _ _ d_Model_isIn_18 rfl (Or.inr ⟨fun h => h.1 ((lg_cmp_lt _ _).mp c1), rfl⟩)
  · skip
    refine lv_lload_n hx hb d_Model_isIn_6 rfl (lv_at hl 0 rfl) ?_
    refine lv_lload hx hb d_Model_isIn_7 (lv_at hl 2 rfl) ?_
    refine W.lcmp hx hb d_Model_isIn_9 ?_
    refine lv_if_gt (tgt := 17) hx hb d_Model_isIn_10 (by decide) (fun c2 => ?_) (fun c2 => ?_)
    · skip
      refine lv_iconst (v := 0) hx hb d_Model_isIn_17 (by decide) ?_
      exact ret _ _ _ d_Model_isIn_18 rfl (Or.inr ⟨fun h => h.2 ((lg_cmp_gt _ _).mp c2), rfl⟩)
    · skip
      refine lv_iconst (v := 1) hx hb d_Model_isIn_13 (by decide) ?_
      refine lv_goto (tgt := 18) hx hb d_Model_isIn_14 (by decide) ?_
      exact ret _ _ _ d_Model_isIn_18 rfl (Or.inl ⟨⟨fun h => c1 ((lg_cmp_lt _ _).mpr h), fun h => c2 ((lg_cmp_gt _ _).mpr h)⟩, rfl⟩)

abbrev rm_Model_isPicture : Room := { frames := 1, cells := 0, slots := 0, locals := 25 }
set_option maxHeartbeats 4000000 in
set_option maxRecDepth 100000 in
theorem c_Model_isPicture {l : Launch} {D : va_G} {ca : Nat → ClassId} {f : wd_M} (b : Nat) (AD : Nat → Nat) (th mo : Int32) (n : Nat) (nw : Int64) (lt : Int32) (du : Nat → Int64) (g : Nat → Nat → Int32) (hm : rM f ca b AD th mo n nw lt du g) (x : Int32) : Met l y_Model_isPicture (.code y_Model_isPicture b_Model_isPicture 2 (some .boolean) :: tb) rm_Model_isPicture (va_Pc [.ref b, .int x] (wd_pre D classes (ty ca) f)) (vp_Si (zb (¬ x < 1 ∧ ¬ nI n < x))) 0 0 (fun _ => False) := by
  refine wd_Sz (own := R_Model) (by decide) rfl (Nat.le_of_ble_eq_true rfl) ?_
  intro p e s m args below meth c Q X hK hw ret ls hl
  have hx := X.1
  have hb := X.2.1
  have hown := X.2.2.2.1
  have hts := X.2.2.2.2
  have hl : lv_has ls 2 [(0, .ref b), (1, .int x)] := hl
  refine lv_iload_n hx hb d_Model_isPicture_0 rfl (lv_at hl 1 rfl) ?_
  refine lv_i2l hx hb d_Model_isPicture_1 rfl ?_
  refine lv_lconst (v := 1) hx hb d_Model_isPicture_2 (by decide) ?_
  refine lv_aload_n hx hb d_Model_isPicture_3 rfl (lv_at hl 0 rfl) ?_
  refine fg_Model_55 X hK hw hm.1 d_Model_isPicture_4 ?_
  refine lv_i2l hx hb d_Model_isPicture_7 rfl ?_
  refine wd_csi (As := [.long ((x).toInt64), .long 1, .long (((nI n)).toInt64)]) (rest := []) X hK hw (c_Model_isIn x.toInt64 1 (nI n).toInt64) (cw_Model_58 hts rfl rfl ⟨(Nat.le_of_ble_eq_true rfl), (Nat.le_of_ble_eq_true rfl)⟩) rfl hl.1 rfl (Nat.le_of_ble_eq_true rfl) d_Model_isPicture_8 ⟨(Nat.le_of_ble_eq_true rfl), (Nat.le_of_ble_eq_true rfl)⟩ (fun r hz => ?_)
  rcases hz with ⟨z1, rfl⟩ | ⟨z1, rfl⟩
  · skip
    rw [pic_iff] at z1
    exact ret _ _ _ d_Model_isPicture_11 rfl (Or.inl ⟨z1, rfl⟩)
  · skip
    rw [pic_iff] at z1
    exact ret _ _ _ d_Model_isPicture_11 rfl (Or.inr ⟨z1, rfl⟩)

abbrev rm_Model_isClerk : Room := { frames := 1, cells := 0, slots := 0, locals := 25 }
set_option maxHeartbeats 4000000 in
set_option maxRecDepth 100000 in
theorem c_Model_isClerk {l : Launch} {D : va_G} {ca : Nat → ClassId} {f : wd_M} (x : Int32) : Met l y_Model_isClerk (.code y_Model_isClerk b_Model_isClerk 1 (some .boolean) :: tb) rm_Model_isClerk (va_Pc [.int x] (wd_pre D classes (ty ca) f)) (vp_Si (zb (okK x))) 0 0 (fun _ => False) := by
  refine wd_Sz (own := R_Model) (by decide) rfl (Nat.le_of_ble_eq_true rfl) ?_
  intro p e s m args below meth c Q X hK hw ret ls hl
  have hx := X.1
  have hb := X.2.1
  have hown := X.2.2.2.1
  have hts := X.2.2.2.2
  have hl : lv_has ls 1 [(0, .int x)] := hl
  refine lv_iload_n hx hb d_Model_isClerk_0 rfl (lv_at hl 0 rfl) ?_
  refine lv_i2l hx hb d_Model_isClerk_1 rfl ?_
  refine lv_lconst (v := 0) hx hb d_Model_isClerk_2 (by decide) ?_
  refine lv_ldc2 (v := 19) hx hb hown (hts _ k_Model_62) d_Model_isClerk_3 ?_
  refine wd_csi (As := [.long ((x).toInt64), .long 0, .long 19]) (rest := []) X hK hw (c_Model_isIn x.toInt64 0 19) (cw_Model_58 hts rfl rfl ⟨(Nat.le_of_ble_eq_true rfl), (Nat.le_of_ble_eq_true rfl)⟩) rfl hl.1 rfl (Nat.le_of_ble_eq_true rfl) d_Model_isClerk_6 ⟨(Nat.le_of_ble_eq_true rfl), (Nat.le_of_ble_eq_true rfl)⟩ (fun r hz => ?_)
  rcases hz with ⟨z1, rfl⟩ | ⟨z1, rfl⟩
  · skip
    rw [clk_iff] at z1
    exact ret _ _ _ d_Model_isClerk_9 rfl (Or.inl ⟨z1, rfl⟩)
  · skip
    rw [clk_iff] at z1
    exact ret _ _ _ d_Model_isClerk_9 rfl (Or.inr ⟨z1, rfl⟩)

abbrev rm_Model_isTime : Room := { frames := 1, cells := 0, slots := 0, locals := 25 }
set_option maxHeartbeats 4000000 in
set_option maxRecDepth 100000 in
theorem c_Model_isTime {l : Launch} {D : va_G} {ca : Nat → ClassId} {f : wd_M} (b : Nat) (AD : Nat → Nat) (th mo : Int32) (n : Nat) (nw : Int64) (lt : Int32) (du : Nat → Int64) (g : Nat → Nat → Int32) (hm : rM f ca b AD th mo n nw lt du g) (t : Int64) : Met l y_Model_isTime (.code y_Model_isTime b_Model_isTime 3 (some .boolean) :: tb) rm_Model_isTime (va_Pc [.ref b, .long t] (wd_pre D classes (ty ca) f)) (vp_Si (zb (isT nw t))) 0 0 (fun _ => False) := by
  refine wd_Sz (own := R_Model) (by decide) rfl (Nat.le_of_ble_eq_true rfl) ?_
  intro p e s m args below meth c Q X hK hw ret ls hl
  have hx := X.1
  have hb := X.2.1
  have hown := X.2.2.2.1
  have hts := X.2.2.2.2
  have hl : lv_has ls 3 [(0, .ref b), (1, .long t)] := hl
  refine lv_lload_n hx hb d_Model_isTime_0 rfl (lv_at hl 1 rfl) ?_
  refine lv_aload_n hx hb d_Model_isTime_1 rfl (lv_at hl 0 rfl) ?_
  refine fg_Model_64 X hK hw hm.1 d_Model_isTime_2 ?_
  refine lv_ldc2 (v := 1000000000) hx hb hown (hts _ k_Model_68) d_Model_isTime_5 ?_
  refine wd_csi (As := [.long t, .long nw, .long 1000000000]) (rest := []) X hK hw (c_Model_isIn t nw 1000000000) (cw_Model_58 hts rfl rfl ⟨(Nat.le_of_ble_eq_true rfl), (Nat.le_of_ble_eq_true rfl)⟩) rfl hl.1 rfl (Nat.le_of_ble_eq_true rfl) d_Model_isTime_8 ⟨(Nat.le_of_ble_eq_true rfl), (Nat.le_of_ble_eq_true rfl)⟩ (fun r hz => ?_)
  rcases hz with ⟨z1, rfl⟩ | ⟨z1, rfl⟩
  · skip
    exact ret _ _ _ d_Model_isTime_11 rfl (Or.inl ⟨z1, rfl⟩)
  · skip
    exact ret _ _ _ d_Model_isTime_11 rfl (Or.inr ⟨z1, rfl⟩)

abbrev rm_Model_open : Room := { frames := 0, cells := 0, slots := 0, locals := 0 }
set_option maxHeartbeats 4000000 in
set_option maxRecDepth 100000 in
theorem c_Model_open {l : Launch} {D : va_G} {ca : Nat → ClassId} {f : wd_M} (b : Nat) (AD : Nat → Nat) (th mo : Int32) (n : Nat) (nw : Int64) (lt : Int32) (du : Nat → Int64) (g : Nat → Nat → Int32) (hm : rM f ca b AD th mo n nw lt du g) : Met l y_Model_open (.code y_Model_open b_Model_open 3 (some .int) :: tb) rm_Model_open (va_Pc [.ref b] (wd_pre D classes (ty ca) f)) (vp_Si (fun r => r = nI (oW (g 2) n))) 0 0 (fun _ => False) := by
  refine wd_Si (own := R_Model) (by decide) rfl (Nat.le_of_ble_eq_true rfl) ?_
  intro p e s m args below meth c Q X hK hw ret ls hl
  have hx := X.1
  have hb := X.2.1
  have hown := X.2.2.2.1
  have hts := X.2.2.2.2
  have hl : lv_has ls 3 [(0, .ref b)] := hl
  have hn : n ≤ 300 := hm.2.2.2.2
  refine lv_iconst (v := 0) hx hb d_Model_open_0 (by decide) ?_
  refine lv_istore_n (lv' := [(1, .int 0), (0, .ref b)]) hx hb d_Model_open_1 rfl hl (by decide) rfl (fun ls hl => ?_)
  refine lv_iconst (v := 1) hx hb d_Model_open_2 (by decide) ?_
  refine lv_istore_n (lv' := [(2, .int 1), (1, .int 0), (0, .ref b)]) hx hb d_Model_open_3 rfl hl (by decide) rfl (fun ls hl => ?_)
  have loop : ∀ (d i : Nat) (k : Nat) (ls : Array Slot), n = i + d → k = oW (g 2) i → lv_has ls 3 [(2, .int (nI (i + 1))), (1, .int (nI k)), (0, .ref b)] → W p l e rm_Model_open s m args below meth c s.heap [] 0 0 Q (F0 m 4 ls []) := by
    intro d
    induction d with
    | zero =>
      intro i k ls hdd hk hl
      have hin : i = n := by omega
      refine lv_iload_n hx hb d_Model_open_4 rfl (lv_at hl 0 rfl) ?_
      refine lv_aload_n hx hb d_Model_open_5 rfl (lv_at hl 2 rfl) ?_
      refine fg_Model_55 X hK hw hm.1 d_Model_open_6 ?_
      refine lv_icmp_gt (tgt := 35) hx hb d_Model_open_9 (by decide) (fun _ => ?_) (fun c => absurd (nI_lt (by omega) (by omega)) c)
      refine lv_iload_n hx hb d_Model_open_35 rfl (lv_at hl 1 rfl) ?_
      exact ret _ _ _ d_Model_open_36 (by rw [hk, hin])
    | succ d ih =>
      intro i k ls hdd hk hl
      have hin : i < n := by omega
      refine lv_iload_n hx hb d_Model_open_4 rfl (lv_at hl 0 rfl) ?_
      refine lv_aload_n hx hb d_Model_open_5 rfl (lv_at hl 2 rfl) ?_
      refine fg_Model_55 X hK hw hm.1 d_Model_open_6 ?_
      refine lv_icmp_gt (tgt := 35) hx hb d_Model_open_9 (by decide) (fun c => absurd c (nI_nlt (by omega) (by omega))) (fun _ => ?_)
      refine lv_aload_n hx hb d_Model_open_12 rfl (lv_at hl 2 rfl) ?_
      refine fg_Model_17 X hK hw hm.1 d_Model_open_13 ?_
      refine lv_iload_n hx hb d_Model_open_16 rfl (lv_at hl 0 rfl) ?_
      refine m_ld X hK hw hm (k := 2) (j := i + 1) (by decide) (by decide) rfl (by show i + 1 < 301; omega) d_Model_open_17 ?_
      refine lv_if_ne (tgt := 27) hx hb d_Model_open_18 (by decide) (fun c1 => ?_) (fun c1 => ?_)
      · skip
        refine lv_iload_n hx hb d_Model_open_27 rfl (lv_at hl 1 rfl) ?_
        refine lv_istore_n (lv' := [(1, .int (nI k)), (2, .int (nI (i + 1))), (0, .ref b)]) hx hb d_Model_open_28 rfl hl (by decide) rfl (fun ls hl => ?_)
        refine lv_iinc (v := ((nI (i + 1)) + 1)) (lv' := [(2, .int ((nI (i + 1)) + 1)), (1, .int (nI k)), (0, .ref b)]) hx hb d_Model_open_29 hl (k := 1) rfl rfl (by decide) rfl (fun ls hl => ?_)
        refine lv_goto (tgt := 4) hx hb d_Model_open_32 (by decide) ?_
        exact ih (i + 1) k ls (by omega) (by rw [hk]; exact (if_neg c1).symm) (by rw [nI_succ (i + 1)]; exact lv_sub hl [0, 1, 2] rfl)
      · skip
        refine lv_iload_n hx hb d_Model_open_21 rfl (lv_at hl 1 rfl) ?_
        refine lv_iconst (v := 1) hx hb d_Model_open_22 (by decide) ?_
        refine lv_iadd hx hb d_Model_open_23 ?_
        refine lv_goto (tgt := 28) hx hb d_Model_open_24 (by decide) ?_
        refine lv_istore_n (lv' := [(1, .int ((nI k) + 1)), (2, .int (nI (i + 1))), (0, .ref b)]) hx hb d_Model_open_28 rfl hl (by decide) rfl (fun ls hl => ?_)
        refine lv_iinc (v := ((nI (i + 1)) + 1)) (lv' := [(2, .int ((nI (i + 1)) + 1)), (1, .int ((nI k) + 1)), (0, .ref b)]) hx hb d_Model_open_29 hl (k := 1) rfl rfl (by decide) rfl (fun ls hl => ?_)
        refine lv_goto (tgt := 4) hx hb d_Model_open_32 (by decide) ?_
        exact ih (i + 1) (k + 1) ls (by omega) (by rw [hk]; exact (if_pos c1).symm) (by rw [nI_succ (i + 1), nI_succ k]; exact lv_sub hl [0, 1, 2] rfl)
  exact loop n 0 0 ls (Nat.zero_add _).symm rfl (lv_sub hl [0, 1, 2] rfl)

abbrev rm_Model_held : Room := { frames := 0, cells := 0, slots := 0, locals := 0 }
set_option maxHeartbeats 4000000 in
set_option maxRecDepth 100000 in
theorem c_Model_held {l : Launch} {D : va_G} {ca : Nat → ClassId} {f : wd_M} (b : Nat) (AD : Nat → Nat) (th mo : Int32) (n : Nat) (nw : Int64) (lt : Int32) (du : Nat → Int64) (g : Nat → Nat → Int32) (hm : rM f ca b AD th mo n nw lt du g) (j : Nat) (hj : j < 20) : Met l y_Model_held (.code y_Model_held b_Model_held 4 (some .int) :: tb) rm_Model_held (va_Pc [.ref b, .int (nI j)] (wd_pre D classes (ty ca) f)) (vp_Si (fun r => r = nI (hd (g 6) j n))) 0 0 (fun _ => False) := by
  refine wd_Si (own := R_Model) (by decide) rfl (Nat.le_of_ble_eq_true rfl) ?_
  intro p e s m args below meth c Q X hK hw ret ls hl
  have hx := X.1
  have hb := X.2.1
  have hown := X.2.2.2.1
  have hts := X.2.2.2.2
  have hl : lv_has ls 4 [(0, .ref b), (1, .int (nI j))] := hl
  have hn : n ≤ 300 := hm.2.2.2.2
  refine lv_iconst (v := 0) hx hb d_Model_held_0 (by decide) ?_
  refine lv_istore_n (lv' := [(2, .int 0), (0, .ref b), (1, .int (nI j))]) hx hb d_Model_held_1 rfl hl (by decide) rfl (fun ls hl => ?_)
  refine lv_iconst (v := 1) hx hb d_Model_held_2 (by decide) ?_
  refine lv_istore_n (lv' := [(3, .int 1), (2, .int 0), (0, .ref b), (1, .int (nI j))]) hx hb d_Model_held_3 rfl hl (by decide) rfl (fun ls hl => ?_)
  have loop : ∀ (d i : Nat) (k : Nat) (ls : Array Slot), n = i + d → k = hd (g 6) j i → lv_has ls 4 [(3, .int (nI (i + 1))), (2, .int (nI k)), (1, .int (nI j)), (0, .ref b)] → W p l e rm_Model_held s m args below meth c s.heap [] 0 0 Q (F0 m 4 ls []) := by
    intro d
    induction d with
    | zero =>
      intro i k ls hdd hk hl
      have hin : i = n := by omega
      refine lv_iload_n hx hb d_Model_held_4 rfl (lv_at hl 0 rfl) ?_
      refine lv_aload_n hx hb d_Model_held_5 rfl (lv_at hl 3 rfl) ?_
      refine fg_Model_55 X hK hw hm.1 d_Model_held_6 ?_
      refine lv_icmp_gt (tgt := 42) hx hb d_Model_held_9 (by decide) (fun _ => ?_) (fun c => absurd (nI_lt (by omega) (by omega)) c)
      refine lv_iload_n hx hb d_Model_held_42 rfl (lv_at hl 1 rfl) ?_
      exact ret _ _ _ d_Model_held_43 (by rw [hk, hin])
    | succ d ih =>
      intro i k ls hdd hk hl
      have hin : i < n := by omega
      refine lv_iload_n hx hb d_Model_held_4 rfl (lv_at hl 0 rfl) ?_
      refine lv_aload_n hx hb d_Model_held_5 rfl (lv_at hl 3 rfl) ?_
      refine fg_Model_55 X hK hw hm.1 d_Model_held_6 ?_
      refine lv_icmp_gt (tgt := 42) hx hb d_Model_held_9 (by decide) (fun c => absurd c (nI_nlt (by omega) (by omega))) (fun _ => ?_)
      refine lv_aload_n hx hb d_Model_held_12 rfl (lv_at hl 3 rfl) ?_
      refine fg_Model_29 X hK hw hm.1 d_Model_held_13 ?_
      refine lv_bipush (v := 20) hx hb d_Model_held_16 (by decide) ?_
      refine lv_iload_n hx hb d_Model_held_18 rfl (lv_at hl 0 rfl) ?_
      refine lv_imul hx hb d_Model_held_19 ?_
      refine lv_iload_n hx hb d_Model_held_20 rfl (lv_at hl 2 rfl) ?_
      refine lv_iadd hx hb d_Model_held_21 ?_
      refine lv_bipush (v := 20) hx hb d_Model_held_22 (by decide) ?_
      refine lv_isub hx hb d_Model_held_24 ?_
      rw [ix20 i j]
      refine m_ld X hK hw hm (k := 6) (j := 20 * i + j) (by decide) (by decide) rfl (by show 20 * i + j < 6020; omega) d_Model_held_25 ?_
      refine lv_iconst (v := 2) hx hb d_Model_held_26 (by decide) ?_
      refine lv_icmp_ne (tgt := 34) hx hb d_Model_held_27 (by decide) (fun c1 => ?_) (fun c1 => ?_)
      · skip
        refine lv_iload_n hx hb d_Model_held_34 rfl (lv_at hl 1 rfl) ?_
        refine lv_istore_n (lv' := [(2, .int (nI k)), (3, .int (nI (i + 1))), (1, .int (nI j)), (0, .ref b)]) hx hb d_Model_held_35 rfl hl (by decide) rfl (fun ls hl => ?_)
        refine lv_iinc (v := ((nI (i + 1)) + 1)) (lv' := [(3, .int ((nI (i + 1)) + 1)), (2, .int (nI k)), (1, .int (nI j)), (0, .ref b)]) hx hb d_Model_held_36 hl (k := 1) rfl rfl (by decide) rfl (fun ls hl => ?_)
        refine lv_goto (tgt := 4) hx hb d_Model_held_39 (by decide) ?_
        exact ih (i + 1) k ls (by omega) (by rw [hk]; exact (if_neg c1).symm) (by rw [nI_succ (i + 1)]; exact lv_sub hl [0, 1, 2, 3] rfl)
      · skip
        refine lv_iload_n hx hb d_Model_held_30 rfl (lv_at hl 0 rfl) ?_
        refine lv_goto (tgt := 35) hx hb d_Model_held_31 (by decide) ?_
        refine lv_istore_n (lv' := [(2, .int (nI (i + 1))), (3, .int (nI (i + 1))), (1, .int (nI j)), (0, .ref b)]) hx hb d_Model_held_35 rfl hl (by decide) rfl (fun ls hl => ?_)
        refine lv_iinc (v := ((nI (i + 1)) + 1)) (lv' := [(3, .int ((nI (i + 1)) + 1)), (2, .int (nI (i + 1))), (1, .int (nI j)), (0, .ref b)]) hx hb d_Model_held_36 hl (k := 1) rfl rfl (by decide) rfl (fun ls hl => ?_)
        refine lv_goto (tgt := 4) hx hb d_Model_held_39 (by decide) ?_
        exact ih (i + 1) (i + 1) ls (by omega) (show i + 1 = hd (g 6) j (i + 1) from (if_pos c1).symm) (by rw [nI_succ (i + 1)]; exact lv_sub hl [0, 1, 2, 3] rfl)
  exact loop n 0 0 ls (Nat.zero_add _).symm rfl (lv_sub hl [0, 1, 3, 2] rfl)

abbrev rm_Model_differ : Room := { frames := 0, cells := 0, slots := 0, locals := 0 }
set_option maxHeartbeats 4000000 in
set_option maxRecDepth 100000 in
theorem c_Model_differ {l : Launch} {D : va_G} {ca : Nat → ClassId} {f : wd_M} (b : Nat) (AD : Nat → Nat) (th mo : Int32) (n : Nat) (nw : Int64) (lt : Int32) (du : Nat → Int64) (g : Nat → Nat → Int32) (hm : rM f ca b AD th mo n nw lt du g) (i : Nat) (hi : i < n) : Met l y_Model_differ (.code y_Model_differ b_Model_differ 2 (some .boolean) :: tb) rm_Model_differ (va_Pc [.ref b, .int (nI (i + 1))] (wd_pre D classes (ty ca) f)) (vp_Si (zb (dff (g 4) (g 5) i))) 0 0 (fun _ => False) := by
  refine wd_Sz (own := R_Model) (by decide) rfl (Nat.le_of_ble_eq_true rfl) ?_
  intro p e s m args below meth c Q X hK hw ret ls hl
  have hx := X.1
  have hb := X.2.1
  have hown := X.2.2.2.1
  have hts := X.2.2.2.2
  have hl : lv_has ls 2 [(0, .ref b), (1, .int (nI (i + 1)))] := hl
  have hn : n ≤ 300 := hm.2.2.2.2
  refine lv_aload_n hx hb d_Model_differ_0 rfl (lv_at hl 0 rfl) ?_
  refine fg_Model_23 X hK hw hm.1 d_Model_differ_1 ?_
  refine lv_iload_n hx hb d_Model_differ_4 rfl (lv_at hl 1 rfl) ?_
  refine m_ld X hK hw hm (k := 4) (j := i + 1) (by decide) (by decide) rfl (by show i + 1 < 301; omega) d_Model_differ_5 ?_
  refine lv_iconst (v := 1) hx hb d_Model_differ_6 (by decide) ?_
  refine lv_icmp_le (tgt := 35) hx hb d_Model_differ_7 (by decide) (fun c1 => ?_) (fun c1 => ?_)
  · skip
    refine lv_iconst (v := 0) hx hb d_Model_differ_35 (by decide) ?_
    exact ret _ _ _ d_Model_differ_36 rfl (Or.inr ⟨fun h => h.1 c1, rfl⟩)
  · skip
    refine lv_aload_n hx hb d_Model_differ_10 rfl (lv_at hl 0 rfl) ?_
    refine fg_Model_26 X hK hw hm.1 d_Model_differ_11 ?_
    refine lv_iconst (v := 3) hx hb d_Model_differ_14 (by decide) ?_
    refine lv_iload_n hx hb d_Model_differ_15 rfl (lv_at hl 1 rfl) ?_
    refine lv_imul hx hb d_Model_differ_16 ?_
    rw [ix3 (i + 1)]
    refine m_ld X hK hw hm (k := 5) (j := 3 * (i + 1)) (by decide) (by decide) rfl (by show 3 * (i + 1) < 903; omega) d_Model_differ_17 ?_
    refine lv_aload_n hx hb d_Model_differ_18 rfl (lv_at hl 0 rfl) ?_
    refine fg_Model_26 X hK hw hm.1 d_Model_differ_19 ?_
    refine lv_iconst (v := 3) hx hb d_Model_differ_22 (by decide) ?_
    refine lv_iload_n hx hb d_Model_differ_23 rfl (lv_at hl 1 rfl) ?_
    refine lv_imul hx hb d_Model_differ_24 ?_
    refine lv_iconst (v := 1) hx hb d_Model_differ_25 (by decide) ?_
    refine lv_iadd hx hb d_Model_differ_26 ?_
    rw [ix31 (i + 1)]
    refine m_ld X hK hw hm (k := 5) (j := 3 * (i + 1) + 1) (by decide) (by decide) rfl (by show 3 * (i + 1) + 1 < 903; omega) d_Model_differ_27 ?_
    refine lv_icmp_eq (tgt := 35) hx hb d_Model_differ_28 (by decide) (fun c2 => ?_) (fun c2 => ?_)
    · skip
      refine lv_iconst (v := 0) hx hb d_Model_differ_35 (by decide) ?_
      exact ret _ _ _ d_Model_differ_36 rfl (Or.inr ⟨fun h => h.2 c2, rfl⟩)
    · skip
      refine lv_iconst (v := 1) hx hb d_Model_differ_31 (by decide) ?_
      refine lv_goto (tgt := 36) hx hb d_Model_differ_32 (by decide) ?_
      exact ret _ _ _ d_Model_differ_36 rfl (Or.inl ⟨⟨c1, c2⟩, rfl⟩)

abbrev rm_Model_isTaken : Room := { frames := 1, cells := 0, slots := 0, locals := 21 }
set_option maxHeartbeats 4000000 in
set_option maxRecDepth 100000 in
theorem c_Model_isTaken {l : Launch} {D : va_G} {ca : Nat → ClassId} {f : wd_M} (b : Nat) (AD : Nat → Nat) (th mo : Int32) (n : Nat) (nw : Int64) (lt : Int32) (du : Nat → Int64) (g : Nat → Nat → Int32) (hm : rM f ca b AD th mo n nw lt du g) (i : Nat) (hi : i < n) : Met l y_Model_isTaken (.code y_Model_isTaken b_Model_isTaken 4 (some .boolean) :: tb) rm_Model_isTaken (va_Pc [.ref b, .int (nI (i + 1))] (wd_pre D classes (ty ca) f)) (vp_Si (zb (tkn (g 4) (g 5) (g 6) i))) 0 0 (fun _ => False) := by
  refine wd_Sz (own := R_Model) (by decide) rfl (Nat.le_of_ble_eq_true rfl) ?_
  intro p e s m args below meth c Q X hK hw ret ls hl
  have hx := X.1
  have hb := X.2.1
  have hown := X.2.2.2.1
  have hts := X.2.2.2.2
  have hl : lv_has ls 4 [(0, .ref b), (1, .int (nI (i + 1)))] := hl
  have hn : n ≤ 300 := hm.2.2.2.2
  refine lv_aload_n hx hb d_Model_isTaken_0 rfl (lv_at hl 0 rfl) ?_
  refine fg_Model_23 X hK hw hm.1 d_Model_isTaken_1 ?_
  refine lv_iload_n hx hb d_Model_isTaken_4 rfl (lv_at hl 1 rfl) ?_
  refine m_ld X hK hw hm (k := 4) (j := i + 1) (by decide) (by decide) rfl (by show i + 1 < 301; omega) d_Model_isTaken_5 ?_
  refine lv_istore_n (lv' := [(2, .int (g 4 (i + 1))), (0, .ref b), (1, .int (nI (i + 1)))]) hx hb d_Model_isTaken_6 rfl hl (by decide) rfl (fun ls hl => ?_)
  refine lv_iconst (v := 0) hx hb d_Model_isTaken_7 (by decide) ?_
  refine lv_istore_n (lv' := [(3, .int 0), (2, .int (g 4 (i + 1))), (0, .ref b), (1, .int (nI (i + 1)))]) hx hb d_Model_isTaken_8 rfl hl (by decide) rfl (fun ls hl => ?_)
  have loop : ∀ (d mk : Nat) (k : Nat) (ls : Array Slot), 20 = mk + d → k = hc (g 6) i mk → lv_has ls 4 [(3, .int (nI mk)), (2, .int (g 4 (i + 1) + nI k)), (1, .int (nI (i + 1))), (0, .ref b)] → W p l e rm_Model_isTaken s m args below meth c s.heap [] 0 0 Q (F0 m 9 ls []) := by
    intro d
    induction d with
    | zero =>
      intro mk k ls hdd hk hl
      have hin : mk = 20 := by omega
      refine lv_iload_n hx hb d_Model_isTaken_9 rfl (lv_at hl 0 rfl) ?_
      refine lv_bipush (v := 20) hx hb d_Model_isTaken_10 (by decide) ?_
      refine lv_icmp_ge (tgt := 47) hx hb d_Model_isTaken_12 (by decide) (fun _ => ?_) (fun c => absurd (by rw [hin]; decide) c)
      refine lv_iload_n hx hb d_Model_isTaken_47 rfl (lv_at hl 1 rfl) ?_
      refine lv_aload_n hx hb d_Model_isTaken_48 rfl (lv_at hl 3 rfl) ?_
      refine lv_iload_n hx hb d_Model_isTaken_49 rfl (lv_at hl 2 rfl) ?_
      refine wd_cvi (As := [.int (nI (i + 1))]) (rest := [.int (g 4 (i + 1) + nI k)]) X hK hw (c_Model_differ b AD th mo n nw lt du g hm i hi) (cw_Model_83 hts rfl rfl ⟨(Nat.le_of_ble_eq_true rfl), (Nat.le_of_ble_eq_true rfl)⟩) hm.1 rfl rfl rfl hl.1 rfl (Nat.le_of_ble_eq_true rfl) d_Model_isTaken_50 ⟨(Nat.le_of_ble_eq_true rfl), (Nat.le_of_ble_eq_true rfl)⟩ (fun r hz => ?_)
      rcases hz with ⟨z1, rfl⟩ | ⟨z1, rfl⟩
      · skip
        refine lv_if_eq (tgt := 60) hx hb d_Model_isTaken_53 (by decide) (fun c2 => ?_) (fun c2 => ?_)
        · exact absurd c2 (by decide)
        · skip
          refine lv_iconst (v := 3) hx hb d_Model_isTaken_56 (by decide) ?_
          refine lv_goto (tgt := 61) hx hb d_Model_isTaken_57 (by decide) ?_
          refine lv_icmp_lt (tgt := 68) hx hb d_Model_isTaken_61 (by decide) (fun c3 => ?_) (fun c3 => ?_)
          · skip
            refine lv_iconst (v := 0) hx hb d_Model_isTaken_68 (by decide) ?_
            exact ret _ _ _ d_Model_isTaken_69 rfl (Or.inr ⟨by unfold tkn; rw [if_pos z1, ← hin, ← hk]; exact fun q => q c3, rfl⟩)
          · skip
            refine lv_iconst (v := 1) hx hb d_Model_isTaken_64 (by decide) ?_
            refine lv_goto (tgt := 69) hx hb d_Model_isTaken_65 (by decide) ?_
            exact ret _ _ _ d_Model_isTaken_69 rfl (Or.inl ⟨by unfold tkn; rw [if_pos z1, ← hin, ← hk]; exact c3, rfl⟩)
      · skip
        refine lv_if_eq (tgt := 60) hx hb d_Model_isTaken_53 (by decide) (fun c4 => ?_) (fun c4 => ?_)
        · skip
          refine lv_iconst (v := 2) hx hb d_Model_isTaken_60 (by decide) ?_
          refine lv_icmp_lt (tgt := 68) hx hb d_Model_isTaken_61 (by decide) (fun c5 => ?_) (fun c5 => ?_)
          · skip
            refine lv_iconst (v := 0) hx hb d_Model_isTaken_68 (by decide) ?_
            exact ret _ _ _ d_Model_isTaken_69 rfl (Or.inr ⟨by unfold tkn; rw [if_neg z1, ← hin, ← hk]; exact fun q => q c5, rfl⟩)
          · skip
            refine lv_iconst (v := 1) hx hb d_Model_isTaken_64 (by decide) ?_
            refine lv_goto (tgt := 69) hx hb d_Model_isTaken_65 (by decide) ?_
            exact ret _ _ _ d_Model_isTaken_69 rfl (Or.inl ⟨by unfold tkn; rw [if_neg z1, ← hin, ← hk]; exact c5, rfl⟩)
        · exact absurd c4 (by decide)
    | succ d ih =>
      intro mk k ls hdd hk hl
      have hin : mk < 20 := by omega
      refine lv_iload_n hx hb d_Model_isTaken_9 rfl (lv_at hl 0 rfl) ?_
      refine lv_bipush (v := 20) hx hb d_Model_isTaken_10 (by decide) ?_
      refine lv_icmp_ge (tgt := 47) hx hb d_Model_isTaken_12 (by decide) (fun c => absurd c (nI_ge hin (by decide))) (fun _ => ?_)
      refine lv_aload_n hx hb d_Model_isTaken_15 rfl (lv_at hl 3 rfl) ?_
      refine fg_Model_29 X hK hw hm.1 d_Model_isTaken_16 ?_
      refine lv_bipush (v := 20) hx hb d_Model_isTaken_19 (by decide) ?_
      refine lv_iload_n hx hb d_Model_isTaken_21 rfl (lv_at hl 2 rfl) ?_
      refine lv_imul hx hb d_Model_isTaken_22 ?_
      refine lv_iload_n hx hb d_Model_isTaken_23 rfl (lv_at hl 0 rfl) ?_
      refine lv_iadd hx hb d_Model_isTaken_24 ?_
      refine lv_bipush (v := 20) hx hb d_Model_isTaken_25 (by decide) ?_
      refine lv_isub hx hb d_Model_isTaken_27 ?_
      rw [ix20 i mk]
      refine m_ld X hK hw hm (k := 6) (j := 20 * i + mk) (by decide) (by decide) rfl (by show 20 * i + mk < 6020; omega) d_Model_isTaken_28 ?_
      refine lv_iconst (v := 2) hx hb d_Model_isTaken_29 (by decide) ?_
      refine lv_icmp_ne (tgt := 39) hx hb d_Model_isTaken_30 (by decide) (fun c6 => ?_) (fun c6 => ?_)
      · skip
        refine lv_iload_n hx hb d_Model_isTaken_39 rfl (lv_at hl 1 rfl) ?_
        refine lv_istore_n (lv' := [(2, .int (g 4 (i + 1) + nI k)), (3, .int (nI mk)), (1, .int (nI (i + 1))), (0, .ref b)]) hx hb d_Model_isTaken_40 rfl hl (by decide) rfl (fun ls hl => ?_)
        refine lv_iinc (v := ((nI mk) + 1)) (lv' := [(3, .int ((nI mk) + 1)), (2, .int (g 4 (i + 1) + nI k)), (1, .int (nI (i + 1))), (0, .ref b)]) hx hb d_Model_isTaken_41 hl (k := 1) rfl rfl (by decide) rfl (fun ls hl => ?_)
        refine lv_goto (tgt := 9) hx hb d_Model_isTaken_44 (by decide) ?_
        exact ih (mk + 1) k ls (by omega) (by rw [hk]; exact (if_neg c6).symm) (by rw [nI_succ mk]; exact lv_sub hl [0, 1, 2, 3] rfl)
      · skip
        refine lv_iload_n hx hb d_Model_isTaken_33 rfl (lv_at hl 1 rfl) ?_
        refine lv_iconst (v := 1) hx hb d_Model_isTaken_34 (by decide) ?_
        refine lv_iadd hx hb d_Model_isTaken_35 ?_
        refine lv_goto (tgt := 40) hx hb d_Model_isTaken_36 (by decide) ?_
        refine lv_istore_n (lv' := [(2, .int ((g 4 (i + 1) + nI k) + 1)), (3, .int (nI mk)), (1, .int (nI (i + 1))), (0, .ref b)]) hx hb d_Model_isTaken_40 rfl hl (by decide) rfl (fun ls hl => ?_)
        refine lv_iinc (v := ((nI mk) + 1)) (lv' := [(3, .int ((nI mk) + 1)), (2, .int ((g 4 (i + 1) + nI k) + 1)), (1, .int (nI (i + 1))), (0, .ref b)]) hx hb d_Model_isTaken_41 hl (k := 1) rfl rfl (by decide) rfl (fun ls hl => ?_)
        refine lv_goto (tgt := 9) hx hb d_Model_isTaken_44 (by decide) ?_
        exact ih (mk + 1) (k + 1) ls (by omega) (by rw [hk]; exact (if_pos c6).symm) (by rw [nI_succ mk, nI_succ k, ← Int32.add_assoc]; exact lv_sub hl [0, 1, 2, 3] rfl)
  exact loop 20 0 0 ls (Nat.zero_add _).symm rfl (by rw [add_n0]; exact lv_sub hl [0, 1, 3, 2] rfl)

abbrev rm_Model_stateOf : Room := { frames := 2, cells := 0, slots := 0, locals := 44 }
set_option maxHeartbeats 4000000 in
set_option maxRecDepth 100000 in
theorem c_Model_stateOf {l : Launch} {D : va_G} {ca : Nat → ClassId} {f : wd_M} (b : Nat) (AD : Nat → Nat) (th mo : Int32) (n : Nat) (nw : Int64) (lt : Int32) (du : Nat → Int64) (g : Nat → Nat → Int32) (hm : rM f ca b AD th mo n nw lt du g) (i : Nat) (hi : i < n) : Met l y_Model_stateOf (.code y_Model_stateOf b_Model_stateOf 2 (some .int) :: tb) rm_Model_stateOf (va_Pc [.ref b, .int (nI (i + 1))] (wd_pre D classes (ty ca) f)) (vp_Si (fun r => r = mst g i)) 0 0 (fun _ => False) := by
  refine wd_Si (own := R_Model) (by decide) rfl (Nat.le_of_ble_eq_true rfl) ?_
  intro p e s m args below meth c Q X hK hw ret ls hl
  have hx := X.1
  have hb := X.2.1
  have hown := X.2.2.2.1
  have hts := X.2.2.2.2
  have hl : lv_has ls 2 [(0, .ref b), (1, .int (nI (i + 1)))] := hl
  have hn : n ≤ 300 := hm.2.2.2.2
  refine lv_aload_n hx hb d_Model_stateOf_0 rfl (lv_at hl 0 rfl) ?_
  refine fg_Model_17 X hK hw hm.1 d_Model_stateOf_1 ?_
  refine lv_iload_n hx hb d_Model_stateOf_4 rfl (lv_at hl 1 rfl) ?_
  refine m_ld X hK hw hm (k := 2) (j := i + 1) (by decide) (by decide) rfl (by show i + 1 < 301; omega) d_Model_stateOf_5 ?_
  refine lv_if_eq (tgt := 18) hx hb d_Model_stateOf_6 (by decide) (fun c1 => ?_) (fun c1 => ?_)
  · skip
    refine lv_aload_n hx hb d_Model_stateOf_18 rfl (lv_at hl 0 rfl) ?_
    refine lv_iload_n hx hb d_Model_stateOf_19 rfl (lv_at hl 1 rfl) ?_
    refine wd_cvi (As := [.int (nI (i + 1))]) (rest := []) X hK hw (c_Model_isTaken b AD th mo n nw lt du g hm i hi) (cw_Model_87 hts rfl rfl ⟨(Nat.le_of_ble_eq_true rfl), (Nat.le_of_ble_eq_true rfl)⟩) hm.1 rfl rfl rfl hl.1 rfl (Nat.le_of_ble_eq_true rfl) d_Model_stateOf_20 ⟨(Nat.le_of_ble_eq_true rfl), (Nat.le_of_ble_eq_true rfl)⟩ (fun r hz => ?_)
    rcases hz with ⟨z2, rfl⟩ | ⟨z2, rfl⟩
    · skip
      refine lv_if_eq (tgt := 30) hx hb d_Model_stateOf_23 (by decide) (fun c3 => ?_) (fun c3 => ?_)
      · exact absurd c3 (by decide)
      · skip
        refine lv_iconst (v := 1) hx hb d_Model_stateOf_26 (by decide) ?_
        refine lv_goto (tgt := 31) hx hb d_Model_stateOf_27 (by decide) ?_
        exact ret _ _ _ d_Model_stateOf_31 (by rw [mst, if_pos c1, if_pos z2])
    · skip
      refine lv_if_eq (tgt := 30) hx hb d_Model_stateOf_23 (by decide) (fun c4 => ?_) (fun c4 => ?_)
      · skip
        refine lv_iconst (v := 0) hx hb d_Model_stateOf_30 (by decide) ?_
        exact ret _ _ _ d_Model_stateOf_31 (by rw [mst, if_pos c1, if_neg z2])
      · exact absurd c4 (by decide)
  · skip
    refine lv_aload_n hx hb d_Model_stateOf_9 rfl (lv_at hl 0 rfl) ?_
    refine fg_Model_17 X hK hw hm.1 d_Model_stateOf_10 ?_
    refine lv_iload_n hx hb d_Model_stateOf_13 rfl (lv_at hl 1 rfl) ?_
    refine m_ld X hK hw hm (k := 2) (j := i + 1) (by decide) (by decide) rfl (by show i + 1 < 301; omega) d_Model_stateOf_14 ?_
    refine lv_goto (tgt := 31) hx hb d_Model_stateOf_15 (by decide) ?_
    exact ret _ _ _ d_Model_stateOf_31 (by rw [mst, if_neg c1])

abbrev rm_Model_isFree : Room := { frames := 2, cells := 0, slots := 0, locals := 44 }
set_option maxHeartbeats 4000000 in
set_option maxRecDepth 100000 in
theorem c_Model_isFree {l : Launch} {D : va_G} {ca : Nat → ClassId} {f : wd_M} (b : Nat) (AD : Nat → Nat) (th mo : Int32) (n : Nat) (nw : Int64) (lt : Int32) (du : Nat → Int64) (g : Nat → Nat → Int32) (hm : rM f ca b AD th mo n nw lt du g) (i : Nat) (hi : i < n) (j : Nat) (hj : j < 20) : Met l y_Model_isFree (.code y_Model_isFree b_Model_isFree 6 (some .boolean) :: tb) rm_Model_isFree (va_Pc [.ref b, .int (nI (i + 1)), .int (nI j)] (wd_pre D classes (ty ca) f)) (vp_Si (zb (mfr g i j))) 0 0 (fun _ => False) := by
  refine wd_Sz (own := R_Model) (by decide) rfl (Nat.le_of_ble_eq_true rfl) ?_
  intro p e s m args below meth c Q X hK hw ret ls hl
  have hx := X.1
  have hb := X.2.1
  have hown := X.2.2.2.1
  have hts := X.2.2.2.2
  have hl : lv_has ls 6 [(0, .ref b), (1, .int (nI (i + 1))), (2, .int (nI j))] := hl
  have hn : n ≤ 300 := hm.2.2.2.2
  refine lv_aload_n hx hb d_Model_isFree_0 rfl (lv_at hl 0 rfl) ?_
  refine fg_Model_17 X hK hw hm.1 d_Model_isFree_1 ?_
  refine lv_iload_n hx hb d_Model_isFree_4 rfl (lv_at hl 1 rfl) ?_
  refine m_ld X hK hw hm (k := 2) (j := i + 1) (by decide) (by decide) rfl (by show i + 1 < 301; omega) d_Model_isFree_5 ?_
  refine lv_if_ne (tgt := 49) hx hb d_Model_isFree_6 (by decide) (fun c1 => ?_) (fun c1 => ?_)
  · skip
    refine lv_iconst (v := 0) hx hb d_Model_isFree_49 (by decide) ?_
    exact ret _ _ _ d_Model_isFree_50 rfl (Or.inr ⟨fun h => c1 h.1.1.1.1, rfl⟩)
  · skip
    refine lv_aload_n hx hb d_Model_isFree_9 rfl (lv_at hl 0 rfl) ?_
    refine lv_iload_n hx hb d_Model_isFree_10 rfl (lv_at hl 1 rfl) ?_
    refine wd_cvi (As := [.int (nI (i + 1))]) (rest := []) X hK hw (c_Model_isTaken b AD th mo n nw lt du g hm i hi) (cw_Model_87 hts rfl rfl ⟨(Nat.le_of_ble_eq_true rfl), (Nat.le_of_ble_eq_true rfl)⟩) hm.1 rfl rfl rfl hl.1 rfl (Nat.le_of_ble_eq_true rfl) d_Model_isFree_11 ⟨(Nat.le_of_ble_eq_true rfl), (Nat.le_of_ble_eq_true rfl)⟩ (fun r hz => ?_)
    rcases hz with ⟨z2, rfl⟩ | ⟨z2, rfl⟩
    · skip
      refine lv_if_ne (tgt := 49) hx hb d_Model_isFree_14 (by decide) (fun c3 => ?_) (fun c3 => ?_)
      · skip
        refine lv_iconst (v := 0) hx hb d_Model_isFree_49 (by decide) ?_
        exact ret _ _ _ d_Model_isFree_50 rfl (Or.inr ⟨fun h => h.1.1.1.2 z2, rfl⟩)
      · exact absurd c3 (by decide)
    · skip
      refine lv_if_ne (tgt := 49) hx hb d_Model_isFree_14 (by decide) (fun c4 => ?_) (fun c4 => ?_)
      · exact absurd c4 (by decide)
      · skip
        refine lv_aload_n hx hb d_Model_isFree_17 rfl (lv_at hl 0 rfl) ?_
        refine fg_Model_13 X hK hw hm.1 d_Model_isFree_18 ?_
        refine lv_iload_n hx hb d_Model_isFree_21 rfl (lv_at hl 1 rfl) ?_
        refine m_ld X hK hw hm (k := 1) (j := i + 1) (by decide) (by decide) rfl (by show i + 1 < 301; omega) d_Model_isFree_22 ?_
        refine lv_aload_n hx hb d_Model_isFree_23 rfl (lv_at hl 0 rfl) ?_
        refine fg_Model_45 X hK hw hm.1 d_Model_isFree_24 ?_
        refine lv_iload_n hx hb d_Model_isFree_27 rfl (lv_at hl 2 rfl) ?_
        refine m_ld X hK hw hm (k := 11) (j := j) (by decide) (by decide) rfl (by show j < 20; omega) d_Model_isFree_28 ?_
        refine lv_icmp_gt (tgt := 49) hx hb d_Model_isFree_29 (by decide) (fun c5 => ?_) (fun c5 => ?_)
        · skip
          refine lv_iconst (v := 0) hx hb d_Model_isFree_49 (by decide) ?_
          exact ret _ _ _ d_Model_isFree_50 rfl (Or.inr ⟨fun h => h.1.1.2 c5, rfl⟩)
        · skip
          refine lv_aload_n hx hb d_Model_isFree_32 rfl (lv_at hl 0 rfl) ?_
          refine fg_Model_29 X hK hw hm.1 d_Model_isFree_33 ?_
          refine lv_bipush (v := 20) hx hb d_Model_isFree_36 (by decide) ?_
          refine lv_iload_n hx hb d_Model_isFree_38 rfl (lv_at hl 1 rfl) ?_
          refine lv_imul hx hb d_Model_isFree_39 ?_
          refine lv_iload_n hx hb d_Model_isFree_40 rfl (lv_at hl 2 rfl) ?_
          refine lv_iadd hx hb d_Model_isFree_41 ?_
          refine lv_bipush (v := 20) hx hb d_Model_isFree_42 (by decide) ?_
          refine lv_isub hx hb d_Model_isFree_44 ?_
          rw [ix20 i j]
          refine m_ld X hK hw hm (k := 6) (j := 20 * i + j) (by decide) (by decide) rfl (by show 20 * i + j < 6020; omega) d_Model_isFree_45 ?_
          refine lv_if_eq (tgt := 51) hx hb d_Model_isFree_46 (by decide) (fun c6 => ?_) (fun c6 => ?_)
          · skip
            refine lv_iconst (v := 1) hx hb d_Model_isFree_51 (by decide) ?_
            refine lv_istore_n (lv' := [(3, .int 1), (0, .ref b), (1, .int (nI (i + 1))), (2, .int (nI j))]) hx hb d_Model_isFree_52 rfl hl (by decide) rfl (fun ls hl => ?_)
            refine lv_iconst (v := 0) hx hb d_Model_isFree_53 (by decide) ?_
            refine lv_istore (lv' := [(4, .int 0), (3, .int 1), (0, .ref b), (1, .int (nI (i + 1))), (2, .int (nI j))]) hx hb d_Model_isFree_54 hl (by decide) rfl (fun ls hl => ?_)
            have loop : ∀ (d mk : Nat) (bb : Bool) (ls : Array Slot), 20 = mk + d → bb = aln (g 6) (g 7) (g 10 j) i mk → lv_has ls 6 [(4, .int (nI mk)), (3, .int (zi bb)), (1, .int (nI (i + 1))), (2, .int (nI j)), (0, .ref b)] → W p l e rm_Model_isFree s m args below meth c s.heap [] 0 0 Q (F0 m 56 ls []) := by
              intro d
              induction d with
              | zero =>
                intro mk bb ls hdd hbb hl
                have hin : mk = 20 := by omega
                refine lv_iload hx hb d_Model_isFree_56 (lv_at hl 0 rfl) ?_
                refine lv_bipush (v := 20) hx hb d_Model_isFree_58 (by decide) ?_
                refine lv_icmp_ge (tgt := 118) hx hb d_Model_isFree_60 (by decide) (fun _ => ?_) (fun c => absurd (by rw [hin]; decide) c)
                cases bb with
                | false =>
                  have hl : lv_has ls 6 [(4, .int (nI mk)), (3, .int 0), (1, .int (nI (i + 1))), (2, .int (nI j)), (0, .ref b)] := hl
                  refine lv_iload_n hx hb d_Model_isFree_118 rfl (lv_at hl 1 rfl) ?_
                  refine lv_if_ne (tgt := 130) hx hb d_Model_isFree_119 (by decide) (fun c7 => ?_) (fun c7 => ?_)
                  · exact absurd c7 (by decide)
                  · skip
                    refine lv_aload_n hx hb d_Model_isFree_122 rfl (lv_at hl 4 rfl) ?_
                    refine lv_iload_n hx hb d_Model_isFree_123 rfl (lv_at hl 2 rfl) ?_
                    refine wd_cvi (As := [.int (nI (i + 1))]) (rest := []) X hK hw (c_Model_differ b AD th mo n nw lt du g hm i hi) (cw_Model_83 hts rfl rfl ⟨(Nat.le_of_ble_eq_true rfl), (Nat.le_of_ble_eq_true rfl)⟩) hm.1 rfl rfl rfl hl.1 rfl (Nat.le_of_ble_eq_true rfl) d_Model_isFree_124 ⟨(Nat.le_of_ble_eq_true rfl), (Nat.le_of_ble_eq_true rfl)⟩ (fun r hz => ?_)
                    rcases hz with ⟨z8, rfl⟩ | ⟨z8, rfl⟩
                    · skip
                      refine lv_if_eq (tgt := 134) hx hb d_Model_isFree_127 (by decide) (fun c9 => ?_) (fun c9 => ?_)
                      · exact absurd c9 (by decide)
                      · skip
                        refine lv_iconst (v := 1) hx hb d_Model_isFree_130 (by decide) ?_
                        refine lv_goto (tgt := 135) hx hb d_Model_isFree_131 (by decide) ?_
                        exact ret _ _ _ d_Model_isFree_135 rfl (Or.inl ⟨⟨⟨⟨⟨c1, z2⟩, c5⟩, c6⟩, Or.inr z8⟩, rfl⟩)
                    · skip
                      refine lv_if_eq (tgt := 134) hx hb d_Model_isFree_127 (by decide) (fun c10 => ?_) (fun c10 => ?_)
                      · skip
                        refine lv_iconst (v := 0) hx hb d_Model_isFree_134 (by decide) ?_
                        exact ret _ _ _ d_Model_isFree_135 rfl (Or.inr ⟨fun h => Or.elim h.2 (fun q => by rw [← hin, ← hbb] at q; cases q) z8, rfl⟩)
                      · exact absurd c10 (by decide)
                | true =>
                  have hl : lv_has ls 6 [(4, .int (nI mk)), (3, .int 1), (1, .int (nI (i + 1))), (2, .int (nI j)), (0, .ref b)] := hl
                  refine lv_iload_n hx hb d_Model_isFree_118 rfl (lv_at hl 1 rfl) ?_
                  refine lv_if_ne (tgt := 130) hx hb d_Model_isFree_119 (by decide) (fun c11 => ?_) (fun c11 => ?_)
                  · skip
                    refine lv_iconst (v := 1) hx hb d_Model_isFree_130 (by decide) ?_
                    refine lv_goto (tgt := 135) hx hb d_Model_isFree_131 (by decide) ?_
                    exact ret _ _ _ d_Model_isFree_135 rfl (Or.inl ⟨⟨⟨⟨⟨c1, z2⟩, c5⟩, c6⟩, Or.inl (by rw [← hin, ← hbb])⟩, rfl⟩)
                  · exact absurd c11 (by decide)
              | succ d ih =>
                intro mk bb ls hdd hbb hl
                have hin : mk < 20 := by omega
                refine lv_iload hx hb d_Model_isFree_56 (lv_at hl 0 rfl) ?_
                refine lv_bipush (v := 20) hx hb d_Model_isFree_58 (by decide) ?_
                refine lv_icmp_ge (tgt := 118) hx hb d_Model_isFree_60 (by decide) (fun c => absurd c (nI_ge hin (by decide))) (fun _ => ?_)
                cases bb with
                | false =>
                  have hl : lv_has ls 6 [(4, .int (nI mk)), (3, .int 0), (1, .int (nI (i + 1))), (2, .int (nI j)), (0, .ref b)] := hl
                  refine lv_bipush (v := 20) hx hb d_Model_isFree_63 (by decide) ?_
                  refine lv_iload_n hx hb d_Model_isFree_65 rfl (lv_at hl 2 rfl) ?_
                  refine lv_imul hx hb d_Model_isFree_66 ?_
                  refine lv_iload hx hb d_Model_isFree_67 (lv_at hl 0 rfl) ?_
                  refine lv_iadd hx hb d_Model_isFree_69 ?_
                  refine lv_bipush (v := 20) hx hb d_Model_isFree_70 (by decide) ?_
                  refine lv_isub hx hb d_Model_isFree_72 ?_
                  refine lv_istore (lv' := [(5, .int (((20 * (nI (i + 1))) + (nI mk)) - 20)), (4, .int (nI mk)), (3, .int 0), (1, .int (nI (i + 1))), (2, .int (nI j)), (0, .ref b)]) hx hb d_Model_isFree_73 hl (by decide) rfl (fun ls hl => ?_)
                  refine lv_iload_n hx hb d_Model_isFree_75 rfl (lv_at hl 2 rfl) ?_
                  refine lv_if_eq (tgt := 110) hx hb d_Model_isFree_76 (by decide) (fun c12 => ?_) (fun c12 => ?_)
                  · skip
                    refine lv_iconst (v := 0) hx hb d_Model_isFree_110 (by decide) ?_
                    refine lv_istore_n (lv' := [(3, .int 0), (5, .int (((20 * (nI (i + 1))) + (nI mk)) - 20)), (4, .int (nI mk)), (1, .int (nI (i + 1))), (2, .int (nI j)), (0, .ref b)]) hx hb d_Model_isFree_111 rfl hl (by decide) rfl (fun ls hl => ?_)
                    refine lv_iinc (v := ((nI mk) + 1)) (lv' := [(4, .int ((nI mk) + 1)), (3, .int 0), (5, .int (((20 * (nI (i + 1))) + (nI mk)) - 20)), (1, .int (nI (i + 1))), (2, .int (nI j)), (0, .ref b)]) hx hb d_Model_isFree_112 hl (k := 2) rfl rfl (by decide) rfl (fun ls hl => ?_)
                    refine lv_goto (tgt := 56) hx hb d_Model_isFree_115 (by decide) ?_
                    exact ih (mk + 1) false ls (by omega) (by simp [aln, ← hbb]) (by rw [nI_succ mk]; exact lv_sub hl [0, 1, 3, 4, 5] rfl)
                  · exact absurd c12 (by decide)
                | true =>
                  have hl : lv_has ls 6 [(4, .int (nI mk)), (3, .int 1), (1, .int (nI (i + 1))), (2, .int (nI j)), (0, .ref b)] := hl
                  refine lv_bipush (v := 20) hx hb d_Model_isFree_63 (by decide) ?_
                  refine lv_iload_n hx hb d_Model_isFree_65 rfl (lv_at hl 2 rfl) ?_
                  refine lv_imul hx hb d_Model_isFree_66 ?_
                  refine lv_iload hx hb d_Model_isFree_67 (lv_at hl 0 rfl) ?_
                  refine lv_iadd hx hb d_Model_isFree_69 ?_
                  refine lv_bipush (v := 20) hx hb d_Model_isFree_70 (by decide) ?_
                  refine lv_isub hx hb d_Model_isFree_72 ?_
                  refine lv_istore (lv' := [(5, .int (((20 * (nI (i + 1))) + (nI mk)) - 20)), (4, .int (nI mk)), (3, .int 1), (1, .int (nI (i + 1))), (2, .int (nI j)), (0, .ref b)]) hx hb d_Model_isFree_73 hl (by decide) rfl (fun ls hl => ?_)
                  refine lv_iload_n hx hb d_Model_isFree_75 rfl (lv_at hl 2 rfl) ?_
                  refine lv_if_eq (tgt := 110) hx hb d_Model_isFree_76 (by decide) (fun c13 => ?_) (fun c13 => ?_)
                  · exact absurd c13 (by decide)
                  · skip
                    refine lv_aload_n hx hb d_Model_isFree_79 rfl (lv_at hl 5 rfl) ?_
                    refine fg_Model_29 X hK hw hm.1 d_Model_isFree_80 ?_
                    refine lv_iload hx hb d_Model_isFree_83 (lv_at hl 0 rfl) ?_
                    rw [ix20 i mk]
                    refine m_ld X hK hw hm (k := 6) (j := 20 * i + mk) (by decide) (by decide) rfl (by show 20 * i + mk < 6020; omega) d_Model_isFree_85 ?_
                    refine lv_iconst (v := 1) hx hb d_Model_isFree_86 (by decide) ?_
                    refine lv_icmp_le (tgt := 106) hx hb d_Model_isFree_87 (by decide) (fun c14 => ?_) (fun c14 => ?_)
                    · skip
                      refine lv_iconst (v := 1) hx hb d_Model_isFree_106 (by decide) ?_
                      refine lv_goto (tgt := 111) hx hb d_Model_isFree_107 (by decide) ?_
                      refine lv_istore_n (lv' := [(3, .int 1), (5, .int (((20 * (nI (i + 1))) + (nI mk)) - 20)), (4, .int (nI mk)), (1, .int (nI (i + 1))), (2, .int (nI j)), (0, .ref b)]) hx hb d_Model_isFree_111 rfl hl (by decide) rfl (fun ls hl => ?_)
                      refine lv_iinc (v := ((nI mk) + 1)) (lv' := [(4, .int ((nI mk) + 1)), (3, .int 1), (5, .int (((20 * (nI (i + 1))) + (nI mk)) - 20)), (1, .int (nI (i + 1))), (2, .int (nI j)), (0, .ref b)]) hx hb d_Model_isFree_112 hl (k := 2) rfl rfl (by decide) rfl (fun ls hl => ?_)
                      refine lv_goto (tgt := 56) hx hb d_Model_isFree_115 (by decide) ?_
                      exact ih (mk + 1) true ls (by omega) (by simp [aln, ← hbb, c14]) (by rw [nI_succ mk]; exact lv_sub hl [0, 1, 3, 4, 5] rfl)
                    · skip
                      refine lv_aload_n hx hb d_Model_isFree_90 rfl (lv_at hl 5 rfl) ?_
                      refine fg_Model_32 X hK hw hm.1 d_Model_isFree_91 ?_
                      refine lv_iload hx hb d_Model_isFree_94 (lv_at hl 0 rfl) ?_
                      rw [ix20 i mk]
                      refine m_ld X hK hw hm (k := 7) (j := 20 * i + mk) (by decide) (by decide) rfl (by show 20 * i + mk < 6020; omega) d_Model_isFree_96 ?_
                      refine lv_aload_n hx hb d_Model_isFree_97 rfl (lv_at hl 5 rfl) ?_
                      refine fg_Model_42 X hK hw hm.1 d_Model_isFree_98 ?_
                      refine lv_iload_n hx hb d_Model_isFree_101 rfl (lv_at hl 4 rfl) ?_
                      refine m_ld X hK hw hm (k := 10) (j := j) (by decide) (by decide) rfl (by show j < 20; omega) d_Model_isFree_102 ?_
                      refine lv_icmp_eq (tgt := 110) hx hb d_Model_isFree_103 (by decide) (fun c15 => ?_) (fun c15 => ?_)
                      · skip
                        refine lv_iconst (v := 0) hx hb d_Model_isFree_110 (by decide) ?_
                        refine lv_istore_n (lv' := [(3, .int 0), (5, .int (((20 * (nI (i + 1))) + (nI mk)) - 20)), (4, .int (nI mk)), (1, .int (nI (i + 1))), (2, .int (nI j)), (0, .ref b)]) hx hb d_Model_isFree_111 rfl hl (by decide) rfl (fun ls hl => ?_)
                        refine lv_iinc (v := ((nI mk) + 1)) (lv' := [(4, .int ((nI mk) + 1)), (3, .int 0), (5, .int (((20 * (nI (i + 1))) + (nI mk)) - 20)), (1, .int (nI (i + 1))), (2, .int (nI j)), (0, .ref b)]) hx hb d_Model_isFree_112 hl (k := 2) rfl rfl (by decide) rfl (fun ls hl => ?_)
                        refine lv_goto (tgt := 56) hx hb d_Model_isFree_115 (by decide) ?_
                        exact ih (mk + 1) false ls (by omega) (by simp [aln, ← hbb, c14, c15]) (by rw [nI_succ mk]; exact lv_sub hl [0, 1, 3, 4, 5] rfl)
                      · skip
                        refine lv_iconst (v := 1) hx hb d_Model_isFree_106 (by decide) ?_
                        refine lv_goto (tgt := 111) hx hb d_Model_isFree_107 (by decide) ?_
                        refine lv_istore_n (lv' := [(3, .int 1), (5, .int (((20 * (nI (i + 1))) + (nI mk)) - 20)), (4, .int (nI mk)), (1, .int (nI (i + 1))), (2, .int (nI j)), (0, .ref b)]) hx hb d_Model_isFree_111 rfl hl (by decide) rfl (fun ls hl => ?_)
                        refine lv_iinc (v := ((nI mk) + 1)) (lv' := [(4, .int ((nI mk) + 1)), (3, .int 1), (5, .int (((20 * (nI (i + 1))) + (nI mk)) - 20)), (1, .int (nI (i + 1))), (2, .int (nI j)), (0, .ref b)]) hx hb d_Model_isFree_112 hl (k := 2) rfl rfl (by decide) rfl (fun ls hl => ?_)
                        refine lv_goto (tgt := 56) hx hb d_Model_isFree_115 (by decide) ?_
                        exact ih (mk + 1) true ls (by omega) (by simp [aln, ← hbb, c14, c15]) (by rw [nI_succ mk]; exact lv_sub hl [0, 1, 3, 4, 5] rfl)
            exact loop 20 0 true ls (Nat.zero_add _).symm rfl (lv_sub hl [0, 1, 3, 4, 2] rfl)
          · skip
            refine lv_iconst (v := 0) hx hb d_Model_isFree_49 (by decide) ?_
            exact ret _ _ _ d_Model_isFree_50 rfl (Or.inr ⟨fun h => c6 h.1.2, rfl⟩)

