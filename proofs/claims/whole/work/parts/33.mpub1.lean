abbrev rm_Model_pass : Room := { frames := 0, cells := 0, slots := 0, locals := 0 }
set_option maxHeartbeats 4000000 in
set_option maxRecDepth 100000 in
theorem c_Model_pass {l : Launch} {D : va_G} {ca : Nat → ClassId} {f : wd_M} {sz : Nat} (b : Nat) (AD : Nat → Nat) (th mo : Int32) (n : Nat) (nw : Int64) (lt : Int32) (du : Nat → Int64) (g : Nat → Nat → Int32) (hm : rM f ca b AD th mo n nw lt du g) (t : Int64) : Met l y_Model_pass (.code y_Model_pass b_Model_pass 4 none :: tb) rm_Model_pass (va_Pc [.ref b, .long t] (wd_preZ D classes (ty ca) f sz)) (va_Qv (fun f' => rM f' ca b AD th mo n t (lt + nI (mC t du (g 2) n)) du (va_up g 2 (mE t du (g 2) n))) (wd_B D classes f sz) (wd_A f sz)) 0 0 (wd_A f sz) := by
  refine wd_Qv (own := R_Model) (by decide) rfl (Nat.le_of_ble_eq_true rfl) ?_
  intro p e s m args below meth c Q X hK hnm hw ret ls hl
  have hx := X.1
  have hb := X.2.1
  have hown := X.2.2.2.1
  have hts := X.2.2.2.2
  have hl : lv_has ls 4 [(0, .ref b), (1, .long t)] := hl
  have hn : n ≤ 300 := hm.2.2.2.2
  refine lv_aload_n hx hb d_Model_pass_0 rfl (lv_at hl 0 rfl) ?_
  refine lv_lload_n hx hb d_Model_pass_1 rfl (lv_at hl 1 rfl) ?_
  refine fp_Model_64 X hK hw hm.1 rfl rfl d_Model_pass_2 (fun f1 H locs ef1 hw => ?_)
  have hm : rM f1 ca b AD th mo n t lt du g := rM_obj hm ef1 hm.2.2.2.2
  refine lv_iconst (v := 1) hx hb d_Model_pass_5 (by decide) ?_
  refine lv_istore_n (lv' := [(3, .int 1), (0, .ref b), (1, .long t)]) hx hb d_Model_pass_6 rfl hl (by decide) rfl (fun ls hl => ?_)
  have loop : ∀ (d i : Nat) (k : Nat) (f1 : wd_M) (H : Heap) (locs : List Loc) (ls : Array Slot), n = i + d → wd_I D classes (wd_A f s.heap.size) s.heap f1 H locs → k = mC t du (g 2) i → rM f1 ca b AD th mo n t (lt + nI k) du (va_up g 2 (mE t du (g 2) i)) → lv_has ls 4 [(3, .int (nI (i + 1))), (1, .long t), (0, .ref b)] → W p l e rm_Model_pass s m args below meth c H locs 0 0 Q (F0 m 7 ls []) := by
    intro d
    induction d with
    | zero =>
      intro i k f1 H locs ls hdd hw hk hm hl
      have hin : i = n := by omega
      refine lv_iload_n hx hb d_Model_pass_7 rfl (lv_at hl 0 rfl) ?_
      refine lv_aload_n hx hb d_Model_pass_8 rfl (lv_at hl 2 rfl) ?_
      refine fg_Model_55 X hK hw hm.1 d_Model_pass_9 ?_
      refine lv_icmp_gt (tgt := 58) hx hb d_Model_pass_12 (by decide) (fun _ => ?_) (fun c => absurd (nI_lt (by omega) (by omega)) c)
      exact ret _ _ _ _ _ d_Model_pass_58 hw (by subst hin; rw [hk] at hm; exact hm)
    | succ d ih =>
      intro i k f1 H locs ls hdd hw hk hm hl
      have hin : i < n := by omega
      refine lv_iload_n hx hb d_Model_pass_7 rfl (lv_at hl 0 rfl) ?_
      refine lv_aload_n hx hb d_Model_pass_8 rfl (lv_at hl 2 rfl) ?_
      refine fg_Model_55 X hK hw hm.1 d_Model_pass_9 ?_
      refine lv_icmp_gt (tgt := 58) hx hb d_Model_pass_12 (by decide) (fun c => absurd c (nI_nlt (by omega) (by omega))) (fun _ => ?_)
      refine lv_aload_n hx hb d_Model_pass_15 rfl (lv_at hl 2 rfl) ?_
      refine fg_Model_17 X hK hw hm.1 d_Model_pass_16 ?_
      refine lv_iload_n hx hb d_Model_pass_19 rfl (lv_at hl 0 rfl) ?_
      refine m_ld X hK hw hm (k := 2) (j := i + 1) (by decide) (by decide) rfl (by show i + 1 < 301; omega) d_Model_pass_20 ?_
      rw [rd_e]
      refine lv_if_ne (tgt := 52) hx hb d_Model_pass_21 (by decide) (fun c2 => ?_) (fun c2 => ?_)
      · skip
        refine lv_iinc (v := ((nI (i + 1)) + 1)) (lv' := [(3, .int ((nI (i + 1)) + 1)), (1, .long t), (0, .ref b)]) hx hb d_Model_pass_52 hl (k := 0) rfl rfl (by decide) rfl (fun ls hl => ?_)
        refine lv_goto (tgt := 7) hx hb d_Model_pass_55 (by decide) ?_
        exact ih (i + 1) k f1 _ _ ls (by omega) hw (by rw [hk]; exact (if_neg (fun q => c2 q.1)).symm) (by rw [mE_no (fun q => c2 q.1)]; exact hm) (by rw [nI_succ (i + 1)]; exact lv_sub hl [0, 1, 2] rfl)
      · skip
        refine lv_aload_n hx hb d_Model_pass_24 rfl (lv_at hl 2 rfl) ?_
        refine fg_Model_7 X hK hw hm.1 d_Model_pass_25 ?_
        refine lv_iload_n hx hb d_Model_pass_28 rfl (lv_at hl 0 rfl) ?_
        refine m_ldl X hK hw hm (j := i + 1) (by omega) d_Model_pass_29 ?_
        refine lv_lload_n hx hb d_Model_pass_30 rfl (lv_at hl 1 rfl) ?_
        refine W.lcmp hx hb d_Model_pass_31 ?_
        refine lv_if_ge (tgt := 52) hx hb d_Model_pass_32 (by decide) (fun c3 => ?_) (fun c3 => ?_)
        · skip
          refine lv_iinc (v := ((nI (i + 1)) + 1)) (lv' := [(3, .int ((nI (i + 1)) + 1)), (1, .long t), (0, .ref b)]) hx hb d_Model_pass_52 hl (k := 0) rfl rfl (by decide) rfl (fun ls hl => ?_)
          refine lv_goto (tgt := 7) hx hb d_Model_pass_55 (by decide) ?_
          exact ih (i + 1) k f1 _ _ ls (by omega) hw (by rw [hk]; exact (if_neg (fun q => cmp_ge c3 q.2)).symm) (by rw [mE_no (fun q => cmp_ge c3 q.2)]; exact hm) (by rw [nI_succ (i + 1)]; exact lv_sub hl [0, 1, 2] rfl)
        · skip
          refine lv_aload_n hx hb d_Model_pass_35 rfl (lv_at hl 2 rfl) ?_
          refine fg_Model_17 X hK hw hm.1 d_Model_pass_36 ?_
          refine lv_iload_n hx hb d_Model_pass_39 rfl (lv_at hl 0 rfl) ?_
          refine lv_iconst (v := 4) hx hb d_Model_pass_40 (by decide) ?_
          refine m_st X hK hw hm (k := 2) (j := i + 1) (by decide) (by decide) rfl (by show i + 1 < 301; omega) d_Model_pass_41 (fun f4 H locs hm hw => ?_)
          refine lv_aload_n hx hb d_Model_pass_42 rfl (lv_at hl 2 rfl) ?_
          refine lv_dup hx hb d_Model_pass_43 rfl ?_
          refine fg_Model_80 X hK hw hm.1 d_Model_pass_44 ?_
          refine lv_iconst (v := 1) hx hb d_Model_pass_47 (by decide) ?_
          refine lv_iadd hx hb d_Model_pass_48 ?_
          refine fp_Model_80 X hK hw hm.1 rfl rfl d_Model_pass_49 (fun f5 H locs ef5 hw => ?_)
          have hm : rM f5 ca b AD th mo n t ((lt + nI k) + 1) du (va_up (va_up g 2 (mE t du (g 2) i)) 2 (upd ((va_up g 2 (mE t du (g 2) i)) 2) (i + 1) 4)) := rM_obj hm ef5 hm.2.2.2.2
          refine lv_iinc (v := ((nI (i + 1)) + 1)) (lv' := [(3, .int ((nI (i + 1)) + 1)), (1, .long t), (0, .ref b)]) hx hb d_Model_pass_52 hl (k := 0) rfl rfl (by decide) rfl (fun ls hl => ?_)
          refine lv_goto (tgt := 7) hx hb d_Model_pass_55 (by decide) ?_
          exact ih (i + 1) (k + 1) f5 _ _ ls (by omega) hw (by rw [hk]; exact (if_pos ⟨c2, cmp_nge c3⟩).symm) (by rw [nI_succ k, ← Int32.add_assoc, ← up_e ⟨c2, cmp_nge c3⟩]; exact hm) (by rw [nI_succ (i + 1)]; exact lv_sub hl [0, 1, 2] rfl)
  exact loop n 0 0 f1 _ _ ls (Nat.zero_add _).symm hw rfl (by rw [add_n0, up_0]; exact hm) (lv_sub hl [0, 2, 1] rfl)

abbrev rm_Model_picture : Room := { frames := 2, cells := 0, slots := 0, locals := 47 }
set_option maxHeartbeats 4000000 in
set_option maxRecDepth 100000 in
theorem c_Model_picture {l : Launch} {D : va_G} {ca : Nat → ClassId} {f : wd_M} {sz : Nat} (b : Nat) (AD : Nat → Nat) (th mo : Int32) (n : Nat) (nw : Int64) (lt : Int32) (du : Nat → Int64) (g : Nat → Nat → Int32) (hm : rM f ca b AD th mo n nw lt du g) (t : Int64) (sk : Int32) : Met l y_Model_picture (.code y_Model_picture b_Model_picture 4 (some .int) :: tb) rm_Model_picture (va_Pc [.ref b, .long t, .int sk] (wd_preZ D classes (ty ca) f sz)) (va_Qi (fun r f' => (¬ (isT nw t ∧ wi sk 3) ∧ r = -102 ∧ rM f' ca b AD 0 mo n nw lt du g) ∨ ((isT nw t ∧ wi sk 3) ∧ ((nI n = 300 ∧ r = -104 ∧ rM f' ca b AD 0 mo n nw lt du g) ∨ (¬ nI n = 300 ∧ ((nI (oW (g 2) n) = mo ∧ r = 0 ∧ rM f' ca b AD 0 mo n nw lt du g) ∨ (¬ nI (oW (g 2) n) = mo ∧ r = nI (n + 1) ∧ rM f' ca b AD 0 mo (n + 1) nw lt (vp_updL du (n + 1) t) (va_up g 1 (upd (g 1) (n + 1) sk)))))))) (wd_B D classes f sz) (wd_A f sz)) 0 0 (wd_A f sz) := by
  refine wd_Qi (own := R_Model) (by decide) rfl (Nat.le_of_ble_eq_true rfl) ?_
  intro p e s m args below meth c Q X hK hw ret ls hl
  have hx := X.1
  have hb := X.2.1
  have hown := X.2.2.2.1
  have hts := X.2.2.2.2
  have hl : lv_has ls 4 [(0, .ref b), (1, .long t), (3, .int sk)] := hl
  have hn : n ≤ 300 := hm.2.2.2.2
  refine lv_aload_n hx hb d_Model_picture_0 rfl (lv_at hl 0 rfl) ?_
  refine lv_iconst (v := 0) hx hb d_Model_picture_1 (by decide) ?_
  refine fp_Model_52 X hK hw hm.1 rfl rfl d_Model_picture_2 (fun f1 H locs ef1 hw => ?_)
  have hm : rM f1 ca b AD 0 mo n nw lt du g := rM_obj hm ef1 hm.2.2.2.2
  refine lv_aload_n hx hb d_Model_picture_5 rfl (lv_at hl 0 rfl) ?_
  refine lv_lload_n hx hb d_Model_picture_6 rfl (lv_at hl 1 rfl) ?_
  refine wd_cvi (As := [.long t]) (rest := []) X hK hw (c_Model_isTime b AD 0 mo n nw lt du g hm t) (cw_Model_70 hts rfl rfl ⟨(Nat.le_of_ble_eq_true rfl), (Nat.le_of_ble_eq_true rfl)⟩) hm.1 rfl rfl rfl hl.1 rfl (Nat.le_of_ble_eq_true rfl) d_Model_picture_7 ⟨(Nat.le_of_ble_eq_true rfl), (Nat.le_of_ble_eq_true rfl)⟩ (fun r hz => ?_)
  rcases hz with ⟨z2, rfl⟩ | ⟨z2, rfl⟩
  · skip
    refine lv_if_eq (tgt := 25) hx hb d_Model_picture_10 (by decide) (fun c3 => ?_) (fun c3 => ?_)
    · exact absurd c3 (by decide)
    · skip
      refine lv_iload_n hx hb d_Model_picture_13 rfl (lv_at hl 2 rfl) ?_
      refine lv_i2l hx hb d_Model_picture_14 rfl ?_
      refine lv_lconst (v := 0) hx hb d_Model_picture_15 (by decide) ?_
      refine lv_ldc2 (v := 3) hx hb hown (hts _ k_Model_74) d_Model_picture_16 ?_
      refine wd_csi (As := [.long ((sk).toInt64), .long 0, .long 3]) (rest := []) X hK hw (c_Model_isIn sk.toInt64 0 3) (cw_Model_58 hts rfl rfl ⟨(Nat.le_of_ble_eq_true rfl), (Nat.le_of_ble_eq_true rfl)⟩) rfl hl.1 rfl (Nat.le_of_ble_eq_true rfl) d_Model_picture_19 ⟨(Nat.le_of_ble_eq_true rfl), (Nat.le_of_ble_eq_true rfl)⟩ (fun r hz => ?_)
      rcases hz with ⟨z4, rfl⟩ | ⟨z4, rfl⟩
      · skip
        rw [wi3_iff] at z4
        refine lv_if_ne (tgt := 28) hx hb d_Model_picture_22 (by decide) (fun c5 => ?_) (fun c5 => ?_)
        · skip
          refine lv_aload_n hx hb d_Model_picture_28 rfl (lv_at hl 0 rfl) ?_
          refine fg_Model_55 X hK hw hm.1 d_Model_picture_29 ?_
          refine lv_sipush (v := 300) hx hb d_Model_picture_32 (by decide) ?_
          refine lv_icmp_ne (tgt := 41) hx hb d_Model_picture_35 (by decide) (fun c6 => ?_) (fun c6 => ?_)
          · skip
            refine lv_aload_n hx hb d_Model_picture_41 rfl (lv_at hl 0 rfl) ?_
            refine wd_cvi (As := []) (rest := []) X hK hw (c_Model_open b AD 0 mo n nw lt du g hm) (cw_Model_76 hts rfl rfl ⟨(Nat.le_of_ble_eq_true rfl), (Nat.le_of_ble_eq_true rfl)⟩) hm.1 rfl rfl rfl hl.1 rfl (Nat.le_of_ble_eq_true rfl) d_Model_picture_42 ⟨(Nat.le_of_ble_eq_true rfl), (Nat.le_of_ble_eq_true rfl)⟩ (fun r hz => ?_)
            subst hz
            refine lv_aload_n hx hb d_Model_picture_45 rfl (lv_at hl 0 rfl) ?_
            refine fg_Model_48 X hK hw hm.1 d_Model_picture_46 ?_
            refine lv_icmp_ne (tgt := 54) hx hb d_Model_picture_49 (by decide) (fun c7 => ?_) (fun c7 => ?_)
            · skip
              have hn1 : n + 1 ≤ 300 := by
                have hne : n ≠ 300 := fun q => c6 (by rw [q]; rfl)
                omega
              refine lv_aload_n hx hb d_Model_picture_54 rfl (lv_at hl 0 rfl) ?_
              refine lv_dup hx hb d_Model_picture_55 rfl ?_
              refine fg_Model_55 X hK hw hm.1 d_Model_picture_56 ?_
              refine lv_iconst (v := 1) hx hb d_Model_picture_59 (by decide) ?_
              refine lv_iadd hx hb d_Model_picture_60 ?_
              refine fp_Model_55 X hK hw hm.1 rfl rfl d_Model_picture_61 (fun f8 H locs ef8 hw => ?_)
              have hm : rM f8 ca b AD 0 mo (n + 1) nw lt du g := rM_obj hm (by rw [nI_succ]; exact ef8) hn1
              refine lv_aload_n hx hb d_Model_picture_64 rfl (lv_at hl 0 rfl) ?_
              refine fg_Model_7 X hK hw hm.1 d_Model_picture_65 ?_
              refine lv_aload_n hx hb d_Model_picture_68 rfl (lv_at hl 0 rfl) ?_
              refine fg_Model_55 X hK hw hm.1 d_Model_picture_69 ?_
              refine lv_lload_n hx hb d_Model_picture_72 rfl (lv_at hl 1 rfl) ?_
              refine m_stl X hK hw hm (j := n + 1) (by omega) d_Model_picture_73 (fun f9 H locs hm hw => ?_)
              refine lv_aload_n hx hb d_Model_picture_74 rfl (lv_at hl 0 rfl) ?_
              refine fg_Model_13 X hK hw hm.1 d_Model_picture_75 ?_
              refine lv_aload_n hx hb d_Model_picture_78 rfl (lv_at hl 0 rfl) ?_
              refine fg_Model_55 X hK hw hm.1 d_Model_picture_79 ?_
              refine lv_iload_n hx hb d_Model_picture_82 rfl (lv_at hl 2 rfl) ?_
              refine m_st X hK hw hm (k := 1) (j := n + 1) (by decide) (by decide) rfl (by show n + 1 < 301; omega) d_Model_picture_83 (fun f10 H locs hm hw => ?_)
              refine lv_aload_n hx hb d_Model_picture_84 rfl (lv_at hl 0 rfl) ?_
              refine fg_Model_55 X hK hw hm.1 d_Model_picture_85 ?_
              exact ret _ _ _ _ _ _ d_Model_picture_88 hw (Or.inr ⟨⟨z2, z4⟩, Or.inr ⟨c6, Or.inr ⟨c7, rfl, hm⟩⟩⟩)
            · skip
              refine lv_iconst (v := 0) hx hb d_Model_picture_52 (by decide) ?_
              exact ret _ _ _ _ _ _ d_Model_picture_53 hw (Or.inr ⟨⟨z2, z4⟩, Or.inr ⟨c6, Or.inl ⟨c7, rfl, hm⟩⟩⟩)
          · skip
            refine lv_bipush (v := (-104)) hx hb d_Model_picture_38 (by decide) ?_
            exact ret _ _ _ _ _ _ d_Model_picture_40 hw (Or.inr ⟨⟨z2, z4⟩, Or.inl ⟨c6, rfl, hm⟩⟩)
        · exact absurd c5 (by decide)
      · skip
        rw [wi3_iff] at z4
        refine lv_if_ne (tgt := 28) hx hb d_Model_picture_22 (by decide) (fun c11 => ?_) (fun c11 => ?_)
        · exact absurd c11 (by decide)
        · skip
          refine lv_bipush (v := (-102)) hx hb d_Model_picture_25 (by decide) ?_
          exact ret _ _ _ _ _ _ d_Model_picture_27 hw (Or.inl ⟨(fun q => z4 q.2), rfl, hm⟩)
  · skip
    refine lv_if_eq (tgt := 25) hx hb d_Model_picture_10 (by decide) (fun c12 => ?_) (fun c12 => ?_)
    · skip
      refine lv_bipush (v := (-102)) hx hb d_Model_picture_25 (by decide) ?_
      exact ret _ _ _ _ _ _ d_Model_picture_27 hw (Or.inl ⟨(fun q => z2 q.1), rfl, hm⟩)
    · exact absurd c12 (by decide)

abbrev rm_Model_tick : Room := { frames := 2, cells := 0, slots := 0, locals := 47 }
set_option maxHeartbeats 4000000 in
set_option maxRecDepth 100000 in
theorem c_Model_tick {l : Launch} {D : va_G} {ca : Nat → ClassId} {f : wd_M} {sz : Nat} (b : Nat) (AD : Nat → Nat) (th mo : Int32) (n : Nat) (nw : Int64) (lt : Int32) (du : Nat → Int64) (g : Nat → Nat → Int32) (hm : rM f ca b AD th mo n nw lt du g) (t : Int64) : Met l y_Model_tick (.code y_Model_tick b_Model_tick 4 (some .int) :: tb) rm_Model_tick (va_Pc [.ref b, .long t] (wd_preZ D classes (ty ca) f sz)) (va_Qi (fun r f' => (¬ isT nw t ∧ r = -102 ∧ rM f' ca b AD 0 mo n nw lt du g) ∨ (isT nw t ∧ r = lt + nI (mC t du (g 2) n) ∧ rM f' ca b AD 0 mo n t 0 du (va_up g 2 (mE t du (g 2) n)))) (wd_B D classes f sz) (wd_A f sz)) 0 0 (wd_A f sz) := by
  refine wd_Qi (own := R_Model) (by decide) rfl (Nat.le_of_ble_eq_true rfl) ?_
  intro p e s m args below meth c Q X hK hw ret ls hl
  have hx := X.1
  have hb := X.2.1
  have hown := X.2.2.2.1
  have hts := X.2.2.2.2
  have hl : lv_has ls 4 [(0, .ref b), (1, .long t)] := hl
  have hn : n ≤ 300 := hm.2.2.2.2
  refine lv_aload_n hx hb d_Model_tick_0 rfl (lv_at hl 0 rfl) ?_
  refine lv_iconst (v := 0) hx hb d_Model_tick_1 (by decide) ?_
  refine fp_Model_52 X hK hw hm.1 rfl rfl d_Model_tick_2 (fun f1 H locs ef1 hw => ?_)
  have hm : rM f1 ca b AD 0 mo n nw lt du g := rM_obj hm ef1 hm.2.2.2.2
  refine lv_aload_n hx hb d_Model_tick_5 rfl (lv_at hl 0 rfl) ?_
  refine lv_lload_n hx hb d_Model_tick_6 rfl (lv_at hl 1 rfl) ?_
  refine wd_cvi (As := [.long t]) (rest := []) X hK hw (c_Model_isTime b AD 0 mo n nw lt du g hm t) (cw_Model_70 hts rfl rfl ⟨(Nat.le_of_ble_eq_true rfl), (Nat.le_of_ble_eq_true rfl)⟩) hm.1 rfl rfl rfl hl.1 rfl (Nat.le_of_ble_eq_true rfl) d_Model_tick_7 ⟨(Nat.le_of_ble_eq_true rfl), (Nat.le_of_ble_eq_true rfl)⟩ (fun r hz => ?_)
  rcases hz with ⟨z2, rfl⟩ | ⟨z2, rfl⟩
  · skip
    refine lv_if_ne (tgt := 16) hx hb d_Model_tick_10 (by decide) (fun c3 => ?_) (fun c3 => ?_)
    · skip
      refine lv_aload_n hx hb d_Model_tick_16 rfl (lv_at hl 0 rfl) ?_
      refine lv_lload_n hx hb d_Model_tick_17 rfl (lv_at hl 1 rfl) ?_
      refine wd_mvv (As := [.long t]) (rest := []) X hK hw (c_Model_pass b AD 0 mo n nw lt du g hm t) (cw_Model_97 hts rfl rfl ⟨(Nat.le_of_ble_eq_true rfl), (Nat.le_of_ble_eq_true rfl)⟩) hm.1 rfl rfl rfl hl.1 rfl (Nat.le_of_ble_eq_true rfl) d_Model_tick_18 ⟨(Nat.le_of_ble_eq_true rfl), (Nat.le_of_ble_eq_true rfl)⟩ (fun f4 H locs hm hw => ?_)
      refine lv_aload_n hx hb d_Model_tick_21 rfl (lv_at hl 0 rfl) ?_
      refine fg_Model_80 X hK hw hm.1 d_Model_tick_22 ?_
      refine lv_istore_n (lv' := [(3, .int (lt + nI (mC t du (g 2) n))), (0, .ref b), (1, .long t)]) hx hb d_Model_tick_25 rfl hl (by decide) rfl (fun ls hl => ?_)
      refine lv_aload_n hx hb d_Model_tick_26 rfl (lv_at hl 1 rfl) ?_
      refine lv_iconst (v := 0) hx hb d_Model_tick_27 (by decide) ?_
      refine fp_Model_80 X hK hw hm.1 rfl rfl d_Model_tick_28 (fun f5 H locs ef5 hw => ?_)
      have hm : rM f5 ca b AD 0 mo n t 0 du (va_up g 2 (mE t du (g 2) n)) := rM_obj hm ef5 hm.2.2.2.2
      refine lv_iload_n hx hb d_Model_tick_31 rfl (lv_at hl 0 rfl) ?_
      exact ret _ _ _ _ _ _ d_Model_tick_32 hw (Or.inr ⟨z2, rfl, hm⟩)
    · exact absurd c3 (by decide)
  · skip
    refine lv_if_ne (tgt := 16) hx hb d_Model_tick_10 (by decide) (fun c6 => ?_) (fun c6 => ?_)
    · exact absurd c6 (by decide)
    · skip
      refine lv_bipush (v := (-102)) hx hb d_Model_tick_13 (by decide) ?_
      exact ret _ _ _ _ _ _ d_Model_tick_15 hw (Or.inl ⟨z2, rfl, hm⟩)

abbrev rm_Model_waiting : Room := { frames := 1, cells := 0, slots := 0, locals := 22 }
set_option maxHeartbeats 4000000 in
set_option maxRecDepth 100000 in
theorem c_Model_waiting {l : Launch} {D : va_G} {ca : Nat → ClassId} {f : wd_M} {sz : Nat} (b : Nat) (AD : Nat → Nat) (th mo : Int32) (n : Nat) (nw : Int64) (lt : Int32) (du : Nat → Int64) (g : Nat → Nat → Int32) (hm : rM f ca b AD th mo n nw lt du g) : Met l y_Model_waiting (.code y_Model_waiting b_Model_waiting 1 (some .int) :: tb) rm_Model_waiting (va_Pc [.ref b] (wd_preZ D classes (ty ca) f sz)) (va_Qi (fun r f' => r = nI (oW (g 2) n) ∧ rM f' ca b AD 0 mo n nw lt du g) (wd_B D classes f sz) (wd_A f sz)) 0 0 (wd_A f sz) := by
  refine wd_Qi (own := R_Model) (by decide) rfl (Nat.le_of_ble_eq_true rfl) ?_
  intro p e s m args below meth c Q X hK hw ret ls hl
  have hx := X.1
  have hb := X.2.1
  have hown := X.2.2.2.1
  have hts := X.2.2.2.2
  have hl : lv_has ls 1 [(0, .ref b)] := hl
  have hn : n ≤ 300 := hm.2.2.2.2
  refine lv_aload_n hx hb d_Model_waiting_0 rfl (lv_at hl 0 rfl) ?_
  refine lv_iconst (v := 0) hx hb d_Model_waiting_1 (by decide) ?_
  refine fp_Model_52 X hK hw hm.1 rfl rfl d_Model_waiting_2 (fun f1 H locs ef1 hw => ?_)
  have hm : rM f1 ca b AD 0 mo n nw lt du g := rM_obj hm ef1 hm.2.2.2.2
  refine lv_aload_n hx hb d_Model_waiting_5 rfl (lv_at hl 0 rfl) ?_
  refine wd_cvi (As := []) (rest := []) X hK hw (c_Model_open b AD 0 mo n nw lt du g hm) (cw_Model_76 hts rfl rfl ⟨(Nat.le_of_ble_eq_true rfl), (Nat.le_of_ble_eq_true rfl)⟩) hm.1 rfl rfl rfl hl.1 rfl (Nat.le_of_ble_eq_true rfl) d_Model_waiting_6 ⟨(Nat.le_of_ble_eq_true rfl), (Nat.le_of_ble_eq_true rfl)⟩ (fun r hz => ?_)
  subst hz
  exact ret _ _ _ _ _ _ d_Model_waiting_9 hw ⟨rfl, hm⟩

abbrev rm_Model_settled : Room := { frames := 2, cells := 0, slots := 0, locals := 46 }
set_option maxHeartbeats 4000000 in
set_option maxRecDepth 100000 in
theorem c_Model_settled {l : Launch} {D : va_G} {ca : Nat → ClassId} {f : wd_M} {sz : Nat} (b : Nat) (AD : Nat → Nat) (th mo : Int32) (n : Nat) (nw : Int64) (lt : Int32) (du : Nat → Int64) (g : Nat → Nat → Int32) (hm : rM f ca b AD th mo n nw lt du g) (y : Int32) : Met l y_Model_settled (.code y_Model_settled b_Model_settled 2 (some .int) :: tb) rm_Model_settled (va_Pc [.ref b, .int y] (wd_preZ D classes (ty ca) f sz)) (va_Qi (fun r f' => (∃ i : Nat, i < n ∧ y = nI (i + 1) ∧ r = (if g 2 (i + 1) = 0 then -1 else g 3 (i + 1)) ∧ rM f' ca b AD 0 mo n nw lt du g) ∨ (¬ (¬ y < 1 ∧ ¬ nI n < y) ∧ r = -101 ∧ rM f' ca b AD 0 mo n nw lt du g)) (wd_B D classes f sz) (wd_A f sz)) 0 0 (wd_A f sz) := by
  refine wd_Qi (own := R_Model) (by decide) rfl (Nat.le_of_ble_eq_true rfl) ?_
  intro p e s m args below meth c Q X hK hw ret ls hl
  have hx := X.1
  have hb := X.2.1
  have hown := X.2.2.2.1
  have hts := X.2.2.2.2
  have hl : lv_has ls 2 [(0, .ref b), (1, .int y)] := hl
  have hn : n ≤ 300 := hm.2.2.2.2
  refine lv_aload_n hx hb d_Model_settled_0 rfl (lv_at hl 0 rfl) ?_
  refine lv_iconst (v := 0) hx hb d_Model_settled_1 (by decide) ?_
  refine fp_Model_52 X hK hw hm.1 rfl rfl d_Model_settled_2 (fun f1 H locs ef1 hw => ?_)
  have hm : rM f1 ca b AD 0 mo n nw lt du g := rM_obj hm ef1 hm.2.2.2.2
  refine lv_aload_n hx hb d_Model_settled_5 rfl (lv_at hl 0 rfl) ?_
  refine lv_iload_n hx hb d_Model_settled_6 rfl (lv_at hl 1 rfl) ?_
  refine wd_cvi (As := [.int y]) (rest := []) X hK hw (c_Model_isPicture b AD 0 mo n nw lt du g hm y) (cw_Model_105 hts rfl rfl ⟨(Nat.le_of_ble_eq_true rfl), (Nat.le_of_ble_eq_true rfl)⟩) hm.1 rfl rfl rfl hl.1 rfl (Nat.le_of_ble_eq_true rfl) d_Model_settled_7 ⟨(Nat.le_of_ble_eq_true rfl), (Nat.le_of_ble_eq_true rfl)⟩ (fun r hz => ?_)
  rcases hz with ⟨z2, rfl⟩ | ⟨z2, rfl⟩
  · skip
    obtain ⟨i, hi, hxi⟩ := okN_of hm.2.2.2.2 z2.1 z2.2
    subst hxi
    refine lv_if_ne (tgt := 18) hx hb d_Model_settled_10 (by decide) (fun c3 => ?_) (fun c3 => ?_)
    · skip
      refine lv_aload_n hx hb d_Model_settled_18 rfl (lv_at hl 0 rfl) ?_
      refine fg_Model_17 X hK hw hm.1 d_Model_settled_19 ?_
      refine lv_iload_n hx hb d_Model_settled_22 rfl (lv_at hl 1 rfl) ?_
      refine m_ld X hK hw hm (k := 2) (j := i + 1) (by decide) (by decide) rfl (by show i + 1 < 301; omega) d_Model_settled_23 ?_
      refine lv_if_ne (tgt := 31) hx hb d_Model_settled_24 (by decide) (fun c4 => ?_) (fun c4 => ?_)
      · skip
        refine lv_aload_n hx hb d_Model_settled_31 rfl (lv_at hl 0 rfl) ?_
        refine fg_Model_20 X hK hw hm.1 d_Model_settled_32 ?_
        refine lv_iload_n hx hb d_Model_settled_35 rfl (lv_at hl 1 rfl) ?_
        refine m_ld X hK hw hm (k := 3) (j := i + 1) (by decide) (by decide) rfl (by show i + 1 < 301; omega) d_Model_settled_36 ?_
        exact ret _ _ _ _ _ _ d_Model_settled_37 hw (Or.inl ⟨i, hi, rfl, by rw [if_neg c4], hm⟩)
      · skip
        refine lv_iconst (v := (-1)) hx hb d_Model_settled_27 (by decide) ?_
        refine lv_goto (tgt := 37) hx hb d_Model_settled_28 (by decide) ?_
        exact ret _ _ _ _ _ _ d_Model_settled_37 hw (Or.inl ⟨i, hi, rfl, by rw [if_pos c4], hm⟩)
    · exact absurd c3 (by decide)
  · skip
    refine lv_if_ne (tgt := 18) hx hb d_Model_settled_10 (by decide) (fun c5 => ?_) (fun c5 => ?_)
    · exact absurd c5 (by decide)
    · skip
      refine lv_bipush (v := (-101)) hx hb d_Model_settled_13 (by decide) ?_
      refine lv_goto (tgt := 37) hx hb d_Model_settled_15 (by decide) ?_
      exact ret _ _ _ _ _ _ d_Model_settled_37 hw (Or.inr ⟨z2, rfl, hm⟩)

abbrev rm_Model_state : Room := { frames := 3, cells := 0, slots := 0, locals := 65 }
set_option maxHeartbeats 4000000 in
set_option maxRecDepth 100000 in
theorem c_Model_state {l : Launch} {D : va_G} {ca : Nat → ClassId} {f : wd_M} {sz : Nat} (b : Nat) (AD : Nat → Nat) (th mo : Int32) (n : Nat) (nw : Int64) (lt : Int32) (du : Nat → Int64) (g : Nat → Nat → Int32) (hm : rM f ca b AD th mo n nw lt du g) (y : Int32) : Met l y_Model_state (.code y_Model_state b_Model_state 2 (some .int) :: tb) rm_Model_state (va_Pc [.ref b, .int y] (wd_preZ D classes (ty ca) f sz)) (va_Qi (fun r f' => (∃ i : Nat, i < n ∧ y = nI (i + 1) ∧ r = mst g i ∧ rM f' ca b AD 0 mo n nw lt du g) ∨ (¬ (¬ y < 1 ∧ ¬ nI n < y) ∧ r = -101 ∧ rM f' ca b AD 0 mo n nw lt du g)) (wd_B D classes f sz) (wd_A f sz)) 0 0 (wd_A f sz) := by
  refine wd_Qi (own := R_Model) (by decide) rfl (Nat.le_of_ble_eq_true rfl) ?_
  intro p e s m args below meth c Q X hK hw ret ls hl
  have hx := X.1
  have hb := X.2.1
  have hown := X.2.2.2.1
  have hts := X.2.2.2.2
  have hl : lv_has ls 2 [(0, .ref b), (1, .int y)] := hl
  have hn : n ≤ 300 := hm.2.2.2.2
  refine lv_aload_n hx hb d_Model_state_0 rfl (lv_at hl 0 rfl) ?_
  refine lv_iconst (v := 0) hx hb d_Model_state_1 (by decide) ?_
  refine fp_Model_52 X hK hw hm.1 rfl rfl d_Model_state_2 (fun f1 H locs ef1 hw => ?_)
  have hm : rM f1 ca b AD 0 mo n nw lt du g := rM_obj hm ef1 hm.2.2.2.2
  refine lv_aload_n hx hb d_Model_state_5 rfl (lv_at hl 0 rfl) ?_
  refine lv_iload_n hx hb d_Model_state_6 rfl (lv_at hl 1 rfl) ?_
  refine wd_cvi (As := [.int y]) (rest := []) X hK hw (c_Model_isPicture b AD 0 mo n nw lt du g hm y) (cw_Model_105 hts rfl rfl ⟨(Nat.le_of_ble_eq_true rfl), (Nat.le_of_ble_eq_true rfl)⟩) hm.1 rfl rfl rfl hl.1 rfl (Nat.le_of_ble_eq_true rfl) d_Model_state_7 ⟨(Nat.le_of_ble_eq_true rfl), (Nat.le_of_ble_eq_true rfl)⟩ (fun r hz => ?_)
  rcases hz with ⟨z2, rfl⟩ | ⟨z2, rfl⟩
  · skip
    obtain ⟨i, hi, hxi⟩ := okN_of hm.2.2.2.2 z2.1 z2.2
    subst hxi
    refine lv_if_eq (tgt := 21) hx hb d_Model_state_10 (by decide) (fun c3 => ?_) (fun c3 => ?_)
    · exact absurd c3 (by decide)
    · skip
      refine lv_aload_n hx hb d_Model_state_13 rfl (lv_at hl 0 rfl) ?_
      refine lv_iload_n hx hb d_Model_state_14 rfl (lv_at hl 1 rfl) ?_
      refine wd_cvi (As := [.int (nI (i + 1))]) (rest := []) X hK hw (c_Model_stateOf b AD 0 mo n nw lt du g hm i hi) (cw_Model_114 hts rfl rfl ⟨(Nat.le_of_ble_eq_true rfl), (Nat.le_of_ble_eq_true rfl)⟩) hm.1 rfl rfl rfl hl.1 rfl (Nat.le_of_ble_eq_true rfl) d_Model_state_15 ⟨(Nat.le_of_ble_eq_true rfl), (Nat.le_of_ble_eq_true rfl)⟩ (fun r hz => ?_)
      subst hz
      refine lv_goto (tgt := 23) hx hb d_Model_state_18 (by decide) ?_
      exact ret _ _ _ _ _ _ d_Model_state_23 hw (Or.inl ⟨i, hi, rfl, rfl, hm⟩)
  · skip
    refine lv_if_eq (tgt := 21) hx hb d_Model_state_10 (by decide) (fun c4 => ?_) (fun c4 => ?_)
    · skip
      refine lv_bipush (v := (-101)) hx hb d_Model_state_21 (by decide) ?_
      exact ret _ _ _ _ _ _ d_Model_state_23 hw (Or.inr ⟨z2, rfl, hm⟩)
    · exact absurd c4 (by decide)

abbrev rm_Model_office : Room := { frames := 2, cells := 0, slots := 0, locals := 45 }
set_option maxHeartbeats 4000000 in
set_option maxRecDepth 100000 in
theorem c_Model_office {l : Launch} {D : va_G} {ca : Nat → ClassId} {f : wd_M} {sz : Nat} (b : Nat) (AD : Nat → Nat) (th mo : Int32) (n : Nat) (nw : Int64) (lt : Int32) (du : Nat → Int64) (g : Nat → Nat → Int32) (hm : rM f ca b AD th mo n nw lt du g) (x of sk : Int32) : Met l y_Model_office (.code y_Model_office b_Model_office 5 (some .int) :: tb) rm_Model_office (va_Pc [.ref b, .int x, .int of, .int sk] (wd_preZ D classes (ty ca) f sz)) (va_Qi (fun r f' => (¬ okK x ∧ r = -101 ∧ rM f' ca b AD 0 mo n nw lt du g) ∨ ∃ j : Nat, j < 20 ∧ x = nI j ∧ ((¬ (wi of 4 ∧ wi sk 3) ∧ r = -102 ∧ rM f' ca b AD 0 mo n nw lt du g) ∨ ((wi of 4 ∧ wi sk 3) ∧ r = (if ¬ g 9 j = 0 ∧ g 10 j = of ∧ g 11 j = sk then 0 else 1) ∧ rM f' ca b AD 0 mo n nw lt du (va_up (va_up (va_up g 9 (upd (g 9) j 1)) 10 (upd ((va_up g 9 (upd (g 9) j 1)) 10) j of)) 11 (upd ((va_up (va_up g 9 (upd (g 9) j 1)) 10 (upd ((va_up g 9 (upd (g 9) j 1)) 10) j of)) 11) j sk))))) (wd_B D classes f sz) (wd_A f sz)) 0 0 (wd_A f sz) := by
  refine wd_Qi (own := R_Model) (by decide) rfl (Nat.le_of_ble_eq_true rfl) ?_
  intro p e s m args below meth c Q X hK hw ret ls hl
  have hx := X.1
  have hb := X.2.1
  have hown := X.2.2.2.1
  have hts := X.2.2.2.2
  have hl : lv_has ls 5 [(0, .ref b), (1, .int x), (2, .int of), (3, .int sk)] := hl
  have hn : n ≤ 300 := hm.2.2.2.2
  refine lv_aload_n hx hb d_Model_office_0 rfl (lv_at hl 0 rfl) ?_
  refine lv_iconst (v := 0) hx hb d_Model_office_1 (by decide) ?_
  refine fp_Model_52 X hK hw hm.1 rfl rfl d_Model_office_2 (fun f1 H locs ef1 hw => ?_)
  have hm : rM f1 ca b AD 0 mo n nw lt du g := rM_obj hm ef1 hm.2.2.2.2
  refine lv_iload_n hx hb d_Model_office_5 rfl (lv_at hl 1 rfl) ?_
  refine wd_csi (As := [.int x]) (rest := []) X hK hw (c_Model_isClerk x) (cw_Model_90 hts rfl rfl ⟨(Nat.le_of_ble_eq_true rfl), (Nat.le_of_ble_eq_true rfl)⟩) rfl hl.1 rfl (Nat.le_of_ble_eq_true rfl) d_Model_office_6 ⟨(Nat.le_of_ble_eq_true rfl), (Nat.le_of_ble_eq_true rfl)⟩ (fun r hz => ?_)
  rcases hz with ⟨z2, rfl⟩ | ⟨z2, rfl⟩
  · skip
    obtain ⟨j, hj, hxj⟩ := ok20 z2.1 z2.2
    subst hxj
    refine lv_if_ne (tgt := 15) hx hb d_Model_office_9 (by decide) (fun c3 => ?_) (fun c3 => ?_)
    · skip
      refine lv_iload_n hx hb d_Model_office_15 rfl (lv_at hl 2 rfl) ?_
      refine lv_i2l hx hb d_Model_office_16 rfl ?_
      refine lv_lconst (v := 0) hx hb d_Model_office_17 (by decide) ?_
      refine lv_ldc2 (v := 4) hx hb hown (hts _ k_Model_117) d_Model_office_18 ?_
      refine wd_csi (As := [.long ((of).toInt64), .long 0, .long 4]) (rest := []) X hK hw (c_Model_isIn of.toInt64 0 4) (cw_Model_58 hts rfl rfl ⟨(Nat.le_of_ble_eq_true rfl), (Nat.le_of_ble_eq_true rfl)⟩) rfl hl.1 rfl (Nat.le_of_ble_eq_true rfl) d_Model_office_21 ⟨(Nat.le_of_ble_eq_true rfl), (Nat.le_of_ble_eq_true rfl)⟩ (fun r hz => ?_)
      rcases hz with ⟨z4, rfl⟩ | ⟨z4, rfl⟩
      · skip
        rw [wi4_iff] at z4
        refine lv_if_eq (tgt := 39) hx hb d_Model_office_24 (by decide) (fun c5 => ?_) (fun c5 => ?_)
        · exact absurd c5 (by decide)
        · skip
          refine lv_iload_n hx hb d_Model_office_27 rfl (lv_at hl 3 rfl) ?_
          refine lv_i2l hx hb d_Model_office_28 rfl ?_
          refine lv_lconst (v := 0) hx hb d_Model_office_29 (by decide) ?_
          refine lv_ldc2 (v := 3) hx hb hown (hts _ k_Model_74) d_Model_office_30 ?_
          refine wd_csi (As := [.long ((sk).toInt64), .long 0, .long 3]) (rest := []) X hK hw (c_Model_isIn sk.toInt64 0 3) (cw_Model_58 hts rfl rfl ⟨(Nat.le_of_ble_eq_true rfl), (Nat.le_of_ble_eq_true rfl)⟩) rfl hl.1 rfl (Nat.le_of_ble_eq_true rfl) d_Model_office_33 ⟨(Nat.le_of_ble_eq_true rfl), (Nat.le_of_ble_eq_true rfl)⟩ (fun r hz => ?_)
          rcases hz with ⟨z6, rfl⟩ | ⟨z6, rfl⟩
          · skip
            rw [wi3_iff] at z6
            refine lv_if_ne (tgt := 42) hx hb d_Model_office_36 (by decide) (fun c7 => ?_) (fun c7 => ?_)
            · skip
              refine lv_aload_n hx hb d_Model_office_42 rfl (lv_at hl 0 rfl) ?_
              refine fg_Model_38 X hK hw hm.1 d_Model_office_43 ?_
              refine lv_iload_n hx hb d_Model_office_46 rfl (lv_at hl 1 rfl) ?_
              refine m_ldz X hK hw hm (j := j) (by omega) d_Model_office_47 ?_
              refine lv_if_eq (tgt := 75) hx hb d_Model_office_48 (by decide) (fun c8 => ?_) (fun c8 => ?_)
              · skip
                refine lv_iconst (v := 0) hx hb d_Model_office_75 (by decide) ?_
                refine lv_istore (lv' := [(4, .int 0), (0, .ref b), (1, .int (nI j)), (2, .int of), (3, .int sk)]) hx hb d_Model_office_76 hl (by decide) rfl (fun ls hl => ?_)
                refine lv_aload_n hx hb d_Model_office_78 rfl (lv_at hl 1 rfl) ?_
                refine fg_Model_38 X hK hw hm.1 d_Model_office_79 ?_
                refine lv_iload_n hx hb d_Model_office_82 rfl (lv_at hl 2 rfl) ?_
                refine lv_iconst (v := 1) hx hb d_Model_office_83 (by decide) ?_
                refine m_stz X hK hw hm (j := j) (by decide) (by omega) d_Model_office_84 (fun f9 H locs hm hw => ?_)
                refine lv_aload_n hx hb d_Model_office_85 rfl (lv_at hl 1 rfl) ?_
                refine fg_Model_42 X hK hw hm.1 d_Model_office_86 ?_
                refine lv_iload_n hx hb d_Model_office_89 rfl (lv_at hl 2 rfl) ?_
                refine lv_iload_n hx hb d_Model_office_90 rfl (lv_at hl 3 rfl) ?_
                refine m_st X hK hw hm (k := 10) (j := j) (by decide) (by decide) rfl (by show j < 20; omega) d_Model_office_91 (fun f10 H locs hm hw => ?_)
                refine lv_aload_n hx hb d_Model_office_92 rfl (lv_at hl 1 rfl) ?_
                refine fg_Model_45 X hK hw hm.1 d_Model_office_93 ?_
                refine lv_iload_n hx hb d_Model_office_96 rfl (lv_at hl 2 rfl) ?_
                refine lv_iload_n hx hb d_Model_office_97 rfl (lv_at hl 4 rfl) ?_
                refine m_st X hK hw hm (k := 11) (j := j) (by decide) (by decide) rfl (by show j < 20; omega) d_Model_office_98 (fun f11 H locs hm hw => ?_)
                refine lv_iload hx hb d_Model_office_99 (lv_at hl 0 rfl) ?_
                refine lv_if_eq (tgt := 108) hx hb d_Model_office_101 (by decide) (fun c12 => ?_) (fun c12 => ?_)
                · skip
                  refine lv_iconst (v := 1) hx hb d_Model_office_108 (by decide) ?_
                  exact ret _ _ _ _ _ _ d_Model_office_109 hw (Or.inr ⟨j, hj, rfl, Or.inr ⟨⟨z4, z6⟩, by rw [if_neg (fun q => q.1 c8)], hm⟩⟩)
                · exact absurd c12 (by decide)
              · skip
                refine lv_aload_n hx hb d_Model_office_51 rfl (lv_at hl 0 rfl) ?_
                refine fg_Model_42 X hK hw hm.1 d_Model_office_52 ?_
                refine lv_iload_n hx hb d_Model_office_55 rfl (lv_at hl 1 rfl) ?_
                refine m_ld X hK hw hm (k := 10) (j := j) (by decide) (by decide) rfl (by show j < 20; omega) d_Model_office_56 ?_
                refine lv_iload_n hx hb d_Model_office_57 rfl (lv_at hl 2 rfl) ?_
                refine lv_icmp_ne (tgt := 75) hx hb d_Model_office_58 (by decide) (fun c13 => ?_) (fun c13 => ?_)
                · skip
                  refine lv_iconst (v := 0) hx hb d_Model_office_75 (by decide) ?_
                  refine lv_istore (lv' := [(4, .int 0), (0, .ref b), (1, .int (nI j)), (2, .int of), (3, .int sk)]) hx hb d_Model_office_76 hl (by decide) rfl (fun ls hl => ?_)
                  refine lv_aload_n hx hb d_Model_office_78 rfl (lv_at hl 1 rfl) ?_
                  refine fg_Model_38 X hK hw hm.1 d_Model_office_79 ?_
                  refine lv_iload_n hx hb d_Model_office_82 rfl (lv_at hl 2 rfl) ?_
                  refine lv_iconst (v := 1) hx hb d_Model_office_83 (by decide) ?_
                  refine m_stz X hK hw hm (j := j) (by decide) (by omega) d_Model_office_84 (fun f14 H locs hm hw => ?_)
                  refine lv_aload_n hx hb d_Model_office_85 rfl (lv_at hl 1 rfl) ?_
                  refine fg_Model_42 X hK hw hm.1 d_Model_office_86 ?_
                  refine lv_iload_n hx hb d_Model_office_89 rfl (lv_at hl 2 rfl) ?_
                  refine lv_iload_n hx hb d_Model_office_90 rfl (lv_at hl 3 rfl) ?_
                  refine m_st X hK hw hm (k := 10) (j := j) (by decide) (by decide) rfl (by show j < 20; omega) d_Model_office_91 (fun f15 H locs hm hw => ?_)
                  refine lv_aload_n hx hb d_Model_office_92 rfl (lv_at hl 1 rfl) ?_
                  refine fg_Model_45 X hK hw hm.1 d_Model_office_93 ?_
                  refine lv_iload_n hx hb d_Model_office_96 rfl (lv_at hl 2 rfl) ?_
                  refine lv_iload_n hx hb d_Model_office_97 rfl (lv_at hl 4 rfl) ?_
                  refine m_st X hK hw hm (k := 11) (j := j) (by decide) (by decide) rfl (by show j < 20; omega) d_Model_office_98 (fun f16 H locs hm hw => ?_)
                  refine lv_iload hx hb d_Model_office_99 (lv_at hl 0 rfl) ?_
                  refine lv_if_eq (tgt := 108) hx hb d_Model_office_101 (by decide) (fun c17 => ?_) (fun c17 => ?_)
                  · skip
                    refine lv_iconst (v := 1) hx hb d_Model_office_108 (by decide) ?_
                    exact ret _ _ _ _ _ _ d_Model_office_109 hw (Or.inr ⟨j, hj, rfl, Or.inr ⟨⟨z4, z6⟩, by rw [if_neg (fun q => c13 q.2.1)], hm⟩⟩)
                  · exact absurd c17 (by decide)
                · skip
                  refine lv_aload_n hx hb d_Model_office_61 rfl (lv_at hl 0 rfl) ?_
                  refine fg_Model_45 X hK hw hm.1 d_Model_office_62 ?_
                  refine lv_iload_n hx hb d_Model_office_65 rfl (lv_at hl 1 rfl) ?_
                  refine m_ld X hK hw hm (k := 11) (j := j) (by decide) (by decide) rfl (by show j < 20; omega) d_Model_office_66 ?_
                  refine lv_iload_n hx hb d_Model_office_67 rfl (lv_at hl 3 rfl) ?_
                  refine lv_icmp_ne (tgt := 75) hx hb d_Model_office_68 (by decide) (fun c18 => ?_) (fun c18 => ?_)
                  · skip
                    refine lv_iconst (v := 0) hx hb d_Model_office_75 (by decide) ?_
                    refine lv_istore (lv' := [(4, .int 0), (0, .ref b), (1, .int (nI j)), (2, .int of), (3, .int sk)]) hx hb d_Model_office_76 hl (by decide) rfl (fun ls hl => ?_)
                    refine lv_aload_n hx hb d_Model_office_78 rfl (lv_at hl 1 rfl) ?_
                    refine fg_Model_38 X hK hw hm.1 d_Model_office_79 ?_
                    refine lv_iload_n hx hb d_Model_office_82 rfl (lv_at hl 2 rfl) ?_
                    refine lv_iconst (v := 1) hx hb d_Model_office_83 (by decide) ?_
                    refine m_stz X hK hw hm (j := j) (by decide) (by omega) d_Model_office_84 (fun f19 H locs hm hw => ?_)
                    refine lv_aload_n hx hb d_Model_office_85 rfl (lv_at hl 1 rfl) ?_
                    refine fg_Model_42 X hK hw hm.1 d_Model_office_86 ?_
                    refine lv_iload_n hx hb d_Model_office_89 rfl (lv_at hl 2 rfl) ?_
                    refine lv_iload_n hx hb d_Model_office_90 rfl (lv_at hl 3 rfl) ?_
                    refine m_st X hK hw hm (k := 10) (j := j) (by decide) (by decide) rfl (by show j < 20; omega) d_Model_office_91 (fun f20 H locs hm hw => ?_)
                    refine lv_aload_n hx hb d_Model_office_92 rfl (lv_at hl 1 rfl) ?_
                    refine fg_Model_45 X hK hw hm.1 d_Model_office_93 ?_
                    refine lv_iload_n hx hb d_Model_office_96 rfl (lv_at hl 2 rfl) ?_
                    refine lv_iload_n hx hb d_Model_office_97 rfl (lv_at hl 4 rfl) ?_
                    refine m_st X hK hw hm (k := 11) (j := j) (by decide) (by decide) rfl (by show j < 20; omega) d_Model_office_98 (fun f21 H locs hm hw => ?_)
                    refine lv_iload hx hb d_Model_office_99 (lv_at hl 0 rfl) ?_
                    refine lv_if_eq (tgt := 108) hx hb d_Model_office_101 (by decide) (fun c22 => ?_) (fun c22 => ?_)
                    · skip
                      refine lv_iconst (v := 1) hx hb d_Model_office_108 (by decide) ?_
                      exact ret _ _ _ _ _ _ d_Model_office_109 hw (Or.inr ⟨j, hj, rfl, Or.inr ⟨⟨z4, z6⟩, by rw [if_neg (fun q => c18 q.2.2)], hm⟩⟩)
                    · exact absurd c22 (by decide)
                  · skip
                    refine lv_iconst (v := 1) hx hb d_Model_office_71 (by decide) ?_
                    refine lv_goto (tgt := 76) hx hb d_Model_office_72 (by decide) ?_
                    refine lv_istore (lv' := [(4, .int 1), (0, .ref b), (1, .int (nI j)), (2, .int of), (3, .int sk)]) hx hb d_Model_office_76 hl (by decide) rfl (fun ls hl => ?_)
                    refine lv_aload_n hx hb d_Model_office_78 rfl (lv_at hl 1 rfl) ?_
                    refine fg_Model_38 X hK hw hm.1 d_Model_office_79 ?_
                    refine lv_iload_n hx hb d_Model_office_82 rfl (lv_at hl 2 rfl) ?_
                    refine lv_iconst (v := 1) hx hb d_Model_office_83 (by decide) ?_
                    refine m_stz X hK hw hm (j := j) (by decide) (by omega) d_Model_office_84 (fun f23 H locs hm hw => ?_)
                    refine lv_aload_n hx hb d_Model_office_85 rfl (lv_at hl 1 rfl) ?_
                    refine fg_Model_42 X hK hw hm.1 d_Model_office_86 ?_
                    refine lv_iload_n hx hb d_Model_office_89 rfl (lv_at hl 2 rfl) ?_
                    refine lv_iload_n hx hb d_Model_office_90 rfl (lv_at hl 3 rfl) ?_
                    refine m_st X hK hw hm (k := 10) (j := j) (by decide) (by decide) rfl (by show j < 20; omega) d_Model_office_91 (fun f24 H locs hm hw => ?_)
                    refine lv_aload_n hx hb d_Model_office_92 rfl (lv_at hl 1 rfl) ?_
                    refine fg_Model_45 X hK hw hm.1 d_Model_office_93 ?_
                    refine lv_iload_n hx hb d_Model_office_96 rfl (lv_at hl 2 rfl) ?_
                    refine lv_iload_n hx hb d_Model_office_97 rfl (lv_at hl 4 rfl) ?_
                    refine m_st X hK hw hm (k := 11) (j := j) (by decide) (by decide) rfl (by show j < 20; omega) d_Model_office_98 (fun f25 H locs hm hw => ?_)
                    refine lv_iload hx hb d_Model_office_99 (lv_at hl 0 rfl) ?_
                    refine lv_if_eq (tgt := 108) hx hb d_Model_office_101 (by decide) (fun c26 => ?_) (fun c26 => ?_)
                    · exact absurd c26 (by decide)
                    · skip
                      refine lv_iconst (v := 0) hx hb d_Model_office_104 (by decide) ?_
                      refine lv_goto (tgt := 109) hx hb d_Model_office_105 (by decide) ?_
                      exact ret _ _ _ _ _ _ d_Model_office_109 hw (Or.inr ⟨j, hj, rfl, Or.inr ⟨⟨z4, z6⟩, by rw [if_pos ⟨c8, c13, c18⟩], hm⟩⟩)
            · exact absurd c7 (by decide)
          · skip
            rw [wi3_iff] at z6
            refine lv_if_ne (tgt := 42) hx hb d_Model_office_36 (by decide) (fun c27 => ?_) (fun c27 => ?_)
            · exact absurd c27 (by decide)
            · skip
              refine lv_bipush (v := (-102)) hx hb d_Model_office_39 (by decide) ?_
              exact ret _ _ _ _ _ _ d_Model_office_41 hw (Or.inr ⟨j, hj, rfl, Or.inl ⟨(fun q => z6 q.2), rfl, hm⟩⟩)
      · skip
        rw [wi4_iff] at z4
        refine lv_if_eq (tgt := 39) hx hb d_Model_office_24 (by decide) (fun c28 => ?_) (fun c28 => ?_)
        · skip
          refine lv_bipush (v := (-102)) hx hb d_Model_office_39 (by decide) ?_
          exact ret _ _ _ _ _ _ d_Model_office_41 hw (Or.inr ⟨j, hj, rfl, Or.inl ⟨(fun q => z4 q.1), rfl, hm⟩⟩)
        · exact absurd c28 (by decide)
    · exact absurd c3 (by decide)
  · skip
    refine lv_if_ne (tgt := 15) hx hb d_Model_office_9 (by decide) (fun c29 => ?_) (fun c29 => ?_)
    · exact absurd c29 (by decide)
    · skip
      refine lv_bipush (v := (-101)) hx hb d_Model_office_12 (by decide) ?_
      exact ret _ _ _ _ _ _ d_Model_office_14 hw (Or.inl ⟨z2, rfl, hm⟩)

abbrev rm_Model_leave : Room := { frames := 2, cells := 0, slots := 0, locals := 45 }
set_option maxHeartbeats 4000000 in
set_option maxRecDepth 100000 in
theorem c_Model_leave {l : Launch} {D : va_G} {ca : Nat → ClassId} {f : wd_M} {sz : Nat} (b : Nat) (AD : Nat → Nat) (th mo : Int32) (n : Nat) (nw : Int64) (lt : Int32) (du : Nat → Int64) (g : Nat → Nat → Int32) (hm : rM f ca b AD th mo n nw lt du g) (x : Int32) : Met l y_Model_leave (.code y_Model_leave b_Model_leave 3 (some .int) :: tb) rm_Model_leave (va_Pc [.ref b, .int x] (wd_preZ D classes (ty ca) f sz)) (va_Qi (fun r f' => (¬ okK x ∧ r = -101 ∧ rM f' ca b AD 0 mo n nw lt du g) ∨ ∃ j : Nat, j < 20 ∧ x = nI j ∧ ((g 9 j = 0 ∧ r = -103 ∧ rM f' ca b AD 0 mo n nw lt du g) ∨ (¬ g 9 j = 0 ∧ ((hd (g 6) j n = 0 ∧ r = 0 ∧ rM f' ca b AD 0 mo n nw lt du (va_up g 9 (upd (g 9) j 0))) ∨ ∃ b1 : Nat, hd (g 6) j n = b1 + 1 ∧ r = 1 ∧ rM f' ca b AD 0 mo n nw lt du (va_up (va_up g 9 (upd (g 9) j 0)) 6 (upd ((va_up g 9 (upd (g 9) j 0)) 6) (20 * b1 + j) 1)))))) (wd_B D classes f sz) (wd_A f sz)) 0 0 (wd_A f sz) := by
  refine wd_Qi (own := R_Model) (by decide) rfl (Nat.le_of_ble_eq_true rfl) ?_
  intro p e s m args below meth c Q X hK hw ret ls hl
  have hx := X.1
  have hb := X.2.1
  have hown := X.2.2.2.1
  have hts := X.2.2.2.2
  have hl : lv_has ls 3 [(0, .ref b), (1, .int x)] := hl
  have hn : n ≤ 300 := hm.2.2.2.2
  refine lv_aload_n hx hb d_Model_leave_0 rfl (lv_at hl 0 rfl) ?_
  refine lv_iconst (v := 0) hx hb d_Model_leave_1 (by decide) ?_
  refine fp_Model_52 X hK hw hm.1 rfl rfl d_Model_leave_2 (fun f1 H locs ef1 hw => ?_)
  have hm : rM f1 ca b AD 0 mo n nw lt du g := rM_obj hm ef1 hm.2.2.2.2
  refine lv_iload_n hx hb d_Model_leave_5 rfl (lv_at hl 1 rfl) ?_
  refine wd_csi (As := [.int x]) (rest := []) X hK hw (c_Model_isClerk x) (cw_Model_90 hts rfl rfl ⟨(Nat.le_of_ble_eq_true rfl), (Nat.le_of_ble_eq_true rfl)⟩) rfl hl.1 rfl (Nat.le_of_ble_eq_true rfl) d_Model_leave_6 ⟨(Nat.le_of_ble_eq_true rfl), (Nat.le_of_ble_eq_true rfl)⟩ (fun r hz => ?_)
  rcases hz with ⟨z2, rfl⟩ | ⟨z2, rfl⟩
  · skip
    obtain ⟨j, hj, hxj⟩ := ok20 z2.1 z2.2
    subst hxj
    refine lv_if_ne (tgt := 15) hx hb d_Model_leave_9 (by decide) (fun c3 => ?_) (fun c3 => ?_)
    · skip
      refine lv_aload_n hx hb d_Model_leave_15 rfl (lv_at hl 0 rfl) ?_
      refine fg_Model_38 X hK hw hm.1 d_Model_leave_16 ?_
      refine lv_iload_n hx hb d_Model_leave_19 rfl (lv_at hl 1 rfl) ?_
      refine m_ldz X hK hw hm (j := j) (by omega) d_Model_leave_20 ?_
      refine lv_if_ne (tgt := 27) hx hb d_Model_leave_21 (by decide) (fun c4 => ?_) (fun c4 => ?_)
      · skip
        refine lv_aload_n hx hb d_Model_leave_27 rfl (lv_at hl 0 rfl) ?_
        refine fg_Model_38 X hK hw hm.1 d_Model_leave_28 ?_
        refine lv_iload_n hx hb d_Model_leave_31 rfl (lv_at hl 1 rfl) ?_
        refine lv_iconst (v := 0) hx hb d_Model_leave_32 (by decide) ?_
        refine m_stz X hK hw hm (j := j) (by decide) (by omega) d_Model_leave_33 (fun f5 H locs hm hw => ?_)
        refine lv_aload_n hx hb d_Model_leave_34 rfl (lv_at hl 0 rfl) ?_
        refine lv_iload_n hx hb d_Model_leave_35 rfl (lv_at hl 1 rfl) ?_
        refine wd_cvi (As := [.int (nI j)]) (rest := []) X hK hw (c_Model_held b AD 0 mo n nw lt du (va_up g 9 (upd (g 9) j 0)) hm j hj) (cw_Model_93 hts rfl rfl ⟨(Nat.le_of_ble_eq_true rfl), (Nat.le_of_ble_eq_true rfl)⟩) hm.1 rfl rfl rfl hl.1 rfl (Nat.le_of_ble_eq_true rfl) d_Model_leave_36 ⟨(Nat.le_of_ble_eq_true rfl), (Nat.le_of_ble_eq_true rfl)⟩ (fun r hz => ?_)
        subst hz
        refine lv_istore_n (lv' := [(2, .int (nI (hd ((va_up g 9 (upd (g 9) j 0)) 6) j n))), (0, .ref b), (1, .int (nI j))]) hx hb d_Model_leave_39 rfl hl (by decide) rfl (fun ls hl => ?_)
        have hl : lv_has ls 3 [(2, .int (nI (hd (g 6) j n))), (0, .ref b), (1, .int (nI j))] := hl
        refine lv_iload_n hx hb d_Model_leave_40 rfl (lv_at hl 0 rfl) ?_
        refine lv_if_le (tgt := 59) hx hb d_Model_leave_41 (by decide) (fun c6 => ?_) (fun c6 => ?_)
        · skip
          refine lv_iload_n hx hb d_Model_leave_59 rfl (lv_at hl 0 rfl) ?_
          refine lv_if_le (tgt := 67) hx hb d_Model_leave_60 (by decide) (fun c7 => ?_) (fun c7 => ?_)
          · skip
            refine lv_iconst (v := 0) hx hb d_Model_leave_67 (by decide) ?_
            exact ret _ _ _ _ _ _ d_Model_leave_68 hw (Or.inr ⟨j, hj, rfl, Or.inr ⟨c4, Or.inl ⟨(nI_le0 (hd_lt hn)).mp c6, rfl, hm⟩⟩⟩)
          · skip
            refine lv_iconst (v := 1) hx hb d_Model_leave_63 (by decide) ?_
            refine lv_goto (tgt := 68) hx hb d_Model_leave_64 (by decide) ?_
            exact ret _ _ _ _ _ _ d_Model_leave_68 hw (absurd c6 c7)
        · skip
          obtain ⟨b1, hb1⟩ : ∃ b1, hd (g 6) j n = b1 + 1 := ⟨hd (g 6) j n - 1, by have h0 : hd (g 6) j n ≠ 0 := fun q => c6 ((nI_le0 (hd_lt hn)).mpr q); omega⟩
          have hb1n : b1 < n := by have := hd_le (d := g 6) (j := j) n; omega
          have hl : lv_has ls 3 [(2, .int (nI (b1 + 1))), (0, .ref b), (1, .int (nI j))] := by rw [← hb1]; exact hl
          refine lv_aload_n hx hb d_Model_leave_44 rfl (lv_at hl 1 rfl) ?_
          refine fg_Model_29 X hK hw hm.1 d_Model_leave_45 ?_
          refine lv_bipush (v := 20) hx hb d_Model_leave_48 (by decide) ?_
          refine lv_iload_n hx hb d_Model_leave_50 rfl (lv_at hl 0 rfl) ?_
          refine lv_imul hx hb d_Model_leave_51 ?_
          refine lv_iload_n hx hb d_Model_leave_52 rfl (lv_at hl 2 rfl) ?_
          refine lv_iadd hx hb d_Model_leave_53 ?_
          refine lv_bipush (v := 20) hx hb d_Model_leave_54 (by decide) ?_
          refine lv_isub hx hb d_Model_leave_56 ?_
          refine lv_iconst (v := 1) hx hb d_Model_leave_57 (by decide) ?_
          rw [ix20 b1 j]
          refine m_st X hK hw hm (k := 6) (j := 20 * b1 + j) (by decide) (by decide) rfl (by show 20 * b1 + j < 6020; omega) d_Model_leave_58 (fun f8 H locs hm hw => ?_)
          refine lv_iload_n hx hb d_Model_leave_59 rfl (lv_at hl 0 rfl) ?_
          refine lv_if_le (tgt := 67) hx hb d_Model_leave_60 (by decide) (fun c9 => ?_) (fun c9 => ?_)
          · skip
            refine lv_iconst (v := 0) hx hb d_Model_leave_67 (by decide) ?_
            exact ret _ _ _ _ _ _ d_Model_leave_68 hw (absurd c9 (by rw [← hb1]; exact c6))
          · skip
            refine lv_iconst (v := 1) hx hb d_Model_leave_63 (by decide) ?_
            refine lv_goto (tgt := 68) hx hb d_Model_leave_64 (by decide) ?_
            exact ret _ _ _ _ _ _ d_Model_leave_68 hw (Or.inr ⟨j, hj, rfl, Or.inr ⟨c4, Or.inr ⟨b1, hb1, rfl, hm⟩⟩⟩)
      · skip
        refine lv_bipush (v := (-103)) hx hb d_Model_leave_24 (by decide) ?_
        exact ret _ _ _ _ _ _ d_Model_leave_26 hw (Or.inr ⟨j, hj, rfl, Or.inl ⟨c4, rfl, hm⟩⟩)
    · exact absurd c3 (by decide)
  · skip
    refine lv_if_ne (tgt := 15) hx hb d_Model_leave_9 (by decide) (fun c10 => ?_) (fun c10 => ?_)
    · exact absurd c10 (by decide)
    · skip
      refine lv_bipush (v := (-101)) hx hb d_Model_leave_12 (by decide) ?_
      exact ret _ _ _ _ _ _ d_Model_leave_14 hw (Or.inl ⟨z2, rfl, hm⟩)

abbrev rm_Model_agreement : Room := { frames := 2, cells := 0, slots := 0, locals := 45 }
set_option maxHeartbeats 4000000 in
set_option maxRecDepth 100000 in
theorem c_Model_agreement {l : Launch} {D : va_G} {ca : Nat → ClassId} {f : wd_M} {sz : Nat} (b : Nat) (AD : Nat → Nat) (th mo : Int32) (n : Nat) (nw : Int64) (lt : Int32) (du : Nat → Int64) (g : Nat → Nat → Int32) (hm : rM f ca b AD th mo n nw lt du g) (x y sd : Int32) : Met l y_Model_agreement (.code y_Model_agreement b_Model_agreement 8 (some .long) :: tb) rm_Model_agreement (va_Pc [.ref b, .int x, .int y, .int sd] (wd_preZ D classes (ty ca) f sz)) (va_Ql (fun r f' => (¬ (okK x ∧ okK y) ∧ r = -101 ∧ rM f' ca b AD 0 mo n nw lt du g) ∨ ∃ j1 j2 : Nat, j1 < 20 ∧ j2 < 20 ∧ x = nI j1 ∧ y = nI j2 ∧ (((¬ wi sd 1 ∨ nI j1 = nI j2) ∧ r = -102 ∧ rM f' ca b AD 0 mo n nw lt du g) ∨ (wi sd 1 ∧ ¬ nI j1 = nI j2 ∧ r = (nI (mgB (g 8) j1 j2 sd n)).toInt64 ∧ rM f' ca b AD 0 mo n nw lt du g))) (wd_B D classes f sz) (wd_A f sz)) 0 0 (wd_A f sz) := by
  refine wd_Ql (own := R_Model) (by decide) rfl (Nat.le_of_ble_eq_true rfl) ?_
  intro p e s m args below meth c Q X hK hw ret ls hl
  have hx := X.1
  have hb := X.2.1
  have hown := X.2.2.2.1
  have hts := X.2.2.2.2
  have hl : lv_has ls 8 [(0, .ref b), (1, .int x), (2, .int y), (3, .int sd)] := hl
  have hn : n ≤ 300 := hm.2.2.2.2
  refine lv_aload_n hx hb d_Model_agreement_0 rfl (lv_at hl 0 rfl) ?_
  refine lv_iconst (v := 0) hx hb d_Model_agreement_1 (by decide) ?_
  refine fp_Model_52 X hK hw hm.1 rfl rfl d_Model_agreement_2 (fun f1 H locs ef1 hw => ?_)
  have hm : rM f1 ca b AD 0 mo n nw lt du g := rM_obj hm ef1 hm.2.2.2.2
  refine lv_iload_n hx hb d_Model_agreement_5 rfl (lv_at hl 1 rfl) ?_
  refine wd_csi (As := [.int x]) (rest := []) X hK hw (c_Model_isClerk x) (cw_Model_90 hts rfl rfl ⟨(Nat.le_of_ble_eq_true rfl), (Nat.le_of_ble_eq_true rfl)⟩) rfl hl.1 rfl (Nat.le_of_ble_eq_true rfl) d_Model_agreement_6 ⟨(Nat.le_of_ble_eq_true rfl), (Nat.le_of_ble_eq_true rfl)⟩ (fun r hz => ?_)
  rcases hz with ⟨z2, rfl⟩ | ⟨z2, rfl⟩
  · skip
    obtain ⟨j1, hj1, hxj1⟩ := ok20 z2.1 z2.2
    subst hxj1
    refine lv_if_eq (tgt := 19) hx hb d_Model_agreement_9 (by decide) (fun c3 => ?_) (fun c3 => ?_)
    · exact absurd c3 (by decide)
    · skip
      refine lv_iload_n hx hb d_Model_agreement_12 rfl (lv_at hl 2 rfl) ?_
      refine wd_csi (As := [.int y]) (rest := []) X hK hw (c_Model_isClerk y) (cw_Model_90 hts rfl rfl ⟨(Nat.le_of_ble_eq_true rfl), (Nat.le_of_ble_eq_true rfl)⟩) rfl hl.1 rfl (Nat.le_of_ble_eq_true rfl) d_Model_agreement_13 ⟨(Nat.le_of_ble_eq_true rfl), (Nat.le_of_ble_eq_true rfl)⟩ (fun r hz => ?_)
      rcases hz with ⟨z4, rfl⟩ | ⟨z4, rfl⟩
      · skip
        obtain ⟨j2, hj2, hxj2⟩ := ok20 z4.1 z4.2
        subst hxj2
        refine lv_if_ne (tgt := 23) hx hb d_Model_agreement_16 (by decide) (fun c5 => ?_) (fun c5 => ?_)
        · skip
          refine lv_iload_n hx hb d_Model_agreement_23 rfl (lv_at hl 3 rfl) ?_
          refine lv_if_lt (tgt := 37) hx hb d_Model_agreement_24 (by decide) (fun c6 => ?_) (fun c6 => ?_)
          · skip
            refine lv_ldc2 (v := (-102)) hx hb hown (hts _ k_Model_121) d_Model_agreement_37 ?_
            exact ret _ _ _ _ _ _ d_Model_agreement_40 hw (Or.inr ⟨j1, j2, hj1, hj2, rfl, rfl, Or.inl ⟨Or.inl (fun q => q.1 c6), rfl, hm⟩⟩)
          · skip
            refine lv_iload_n hx hb d_Model_agreement_27 rfl (lv_at hl 3 rfl) ?_
            refine lv_iconst (v := 1) hx hb d_Model_agreement_28 (by decide) ?_
            refine lv_icmp_gt (tgt := 37) hx hb d_Model_agreement_29 (by decide) (fun c7 => ?_) (fun c7 => ?_)
            · skip
              refine lv_ldc2 (v := (-102)) hx hb hown (hts _ k_Model_121) d_Model_agreement_37 ?_
              exact ret _ _ _ _ _ _ d_Model_agreement_40 hw (Or.inr ⟨j1, j2, hj1, hj2, rfl, rfl, Or.inl ⟨Or.inl (fun q => q.2 c7), rfl, hm⟩⟩)
            · skip
              refine lv_iload_n hx hb d_Model_agreement_32 rfl (lv_at hl 1 rfl) ?_
              refine lv_iload_n hx hb d_Model_agreement_33 rfl (lv_at hl 2 rfl) ?_
              refine lv_icmp_ne (tgt := 41) hx hb d_Model_agreement_34 (by decide) (fun c8 => ?_) (fun c8 => ?_)
              · skip
                refine lv_iconst (v := 0) hx hb d_Model_agreement_41 (by decide) ?_
                refine lv_istore (lv' := [(4, .int 0), (0, .ref b), (1, .int (nI j1)), (2, .int (nI j2)), (3, .int sd)]) hx hb d_Model_agreement_42 hl (by decide) rfl (fun ls hl => ?_)
                refine lv_iconst (v := 1) hx hb d_Model_agreement_44 (by decide) ?_
                refine lv_istore (lv' := [(5, .int 1), (4, .int 0), (0, .ref b), (1, .int (nI j1)), (2, .int (nI j2)), (3, .int sd)]) hx hb d_Model_agreement_45 hl (by decide) rfl (fun ls hl => ?_)
                have loop : ∀ (d i : Nat) (k : Nat) (ls : Array Slot), n = i + d → k = mgB (g 8) j1 j2 sd i → lv_has ls 8 [(5, .int (nI (i + 1))), (4, .int (nI k)), (1, .int (nI j1)), (2, .int (nI j2)), (3, .int sd), (0, .ref b)] → W p l e rm_Model_agreement s m args below meth c H locs 0 0 Q (F0 m 47 ls []) := by
                  intro d
                  induction d with
                  | zero =>
                    intro i k ls hdd hk hl
                    have hin : i = n := by omega
                    refine lv_iload hx hb d_Model_agreement_47 (lv_at hl 0 rfl) ?_
                    refine lv_aload_n hx hb d_Model_agreement_49 rfl (lv_at hl 5 rfl) ?_
                    refine fg_Model_55 X hK hw hm.1 d_Model_agreement_50 ?_
                    refine lv_icmp_gt (tgt := 129) hx hb d_Model_agreement_53 (by decide) (fun _ => ?_) (fun c => absurd (nI_lt (by omega) (by omega)) c)
                    refine lv_iload hx hb d_Model_agreement_129 (lv_at hl 1 rfl) ?_
                    refine lv_i2l hx hb d_Model_agreement_131 rfl ?_
                    exact ret _ _ _ _ _ _ d_Model_agreement_132 hw (Or.inr ⟨j1, j2, hj1, hj2, rfl, rfl, Or.inr ⟨⟨c6, c7⟩, c8, by rw [hk, hin], hm⟩⟩)
                  | succ d ih =>
                    intro i k ls hdd hk hl
                    have hin : i < n := by omega
                    refine lv_iload hx hb d_Model_agreement_47 (lv_at hl 0 rfl) ?_
                    refine lv_aload_n hx hb d_Model_agreement_49 rfl (lv_at hl 5 rfl) ?_
                    refine fg_Model_55 X hK hw hm.1 d_Model_agreement_50 ?_
                    refine lv_icmp_gt (tgt := 129) hx hb d_Model_agreement_53 (by decide) (fun c => absurd c (nI_nlt (by omega) (by omega))) (fun _ => ?_)
                    refine lv_aload_n hx hb d_Model_agreement_56 rfl (lv_at hl 5 rfl) ?_
                    refine fg_Model_35 X hK hw hm.1 d_Model_agreement_57 ?_
                    refine lv_bipush (v := 20) hx hb d_Model_agreement_60 (by decide) ?_
                    refine lv_iload hx hb d_Model_agreement_62 (lv_at hl 0 rfl) ?_
                    refine lv_imul hx hb d_Model_agreement_64 ?_
                    refine lv_iload_n hx hb d_Model_agreement_65 rfl (lv_at hl 2 rfl) ?_
                    refine lv_iadd hx hb d_Model_agreement_66 ?_
                    refine lv_bipush (v := 20) hx hb d_Model_agreement_67 (by decide) ?_
                    refine lv_isub hx hb d_Model_agreement_69 ?_
                    rw [ix20 i j1]
                    refine m_ld X hK hw hm (k := 8) (j := 20 * i + j1) (by decide) (by decide) rfl (by show 20 * i + j1 < 6020; omega) d_Model_agreement_70 ?_
                    refine lv_istore (lv' := [(6, .int (g 8 (20 * i + j1))), (5, .int (nI (i + 1))), (4, .int (nI k)), (1, .int (nI j1)), (2, .int (nI j2)), (3, .int sd), (0, .ref b)]) hx hb d_Model_agreement_71 hl (by decide) rfl (fun ls hl => ?_)
                    refine lv_aload_n hx hb d_Model_agreement_73 rfl (lv_at hl 6 rfl) ?_
                    refine fg_Model_35 X hK hw hm.1 d_Model_agreement_74 ?_
                    refine lv_bipush (v := 20) hx hb d_Model_agreement_77 (by decide) ?_
                    refine lv_iload hx hb d_Model_agreement_79 (lv_at hl 1 rfl) ?_
                    refine lv_imul hx hb d_Model_agreement_81 ?_
                    refine lv_iload_n hx hb d_Model_agreement_82 rfl (lv_at hl 4 rfl) ?_
                    refine lv_iadd hx hb d_Model_agreement_83 ?_
                    refine lv_bipush (v := 20) hx hb d_Model_agreement_84 (by decide) ?_
                    refine lv_isub hx hb d_Model_agreement_86 ?_
                    rw [ix20 i j2]
                    refine m_ld X hK hw hm (k := 8) (j := 20 * i + j2) (by decide) (by decide) rfl (by show 20 * i + j2 < 6020; omega) d_Model_agreement_87 ?_
                    refine lv_istore (lv' := [(7, .int (g 8 (20 * i + j2))), (6, .int (g 8 (20 * i + j1))), (5, .int (nI (i + 1))), (4, .int (nI k)), (1, .int (nI j1)), (2, .int (nI j2)), (3, .int sd), (0, .ref b)]) hx hb d_Model_agreement_88 hl (by decide) rfl (fun ls hl => ?_)
                    refine lv_iload hx hb d_Model_agreement_90 (lv_at hl 1 rfl) ?_
                    refine lv_if_lt (tgt := 119) hx hb d_Model_agreement_92 (by decide) (fun c9 => ?_) (fun c9 => ?_)
                    · skip
                      refine lv_iload hx hb d_Model_agreement_119 (lv_at hl 3 rfl) ?_
                      refine lv_istore (lv' := [(4, .int (nI k)), (7, .int (g 8 (20 * i + j2))), (6, .int (g 8 (20 * i + j1))), (5, .int (nI (i + 1))), (1, .int (nI j1)), (2, .int (nI j2)), (3, .int sd), (0, .ref b)]) hx hb d_Model_agreement_121 hl (by decide) rfl (fun ls hl => ?_)
                      refine lv_iinc (v := ((nI (i + 1)) + 1)) (lv' := [(5, .int ((nI (i + 1)) + 1)), (4, .int (nI k)), (7, .int (g 8 (20 * i + j2))), (6, .int (g 8 (20 * i + j1))), (1, .int (nI j1)), (2, .int (nI j2)), (3, .int sd), (0, .ref b)]) hx hb d_Model_agreement_123 hl (k := 3) rfl rfl (by decide) rfl (fun ls hl => ?_)
                      refine lv_goto (tgt := 47) hx hb d_Model_agreement_126 (by decide) ?_
                      exact ih (i + 1) k ls (by omega) (by rw [hk]; exact (if_neg (fun q => q.1.1 c9)).symm) (by rw [nI_succ (i + 1)]; exact lv_sub hl [0, 1, 4, 5, 6, 7] rfl)
                    · skip
                      refine lv_iload hx hb d_Model_agreement_95 (lv_at hl 0 rfl) ?_
                      refine lv_if_lt (tgt := 119) hx hb d_Model_agreement_97 (by decide) (fun c10 => ?_) (fun c10 => ?_)
                      · skip
                        refine lv_iload hx hb d_Model_agreement_119 (lv_at hl 3 rfl) ?_
                        refine lv_istore (lv' := [(4, .int (nI k)), (7, .int (g 8 (20 * i + j2))), (6, .int (g 8 (20 * i + j1))), (5, .int (nI (i + 1))), (1, .int (nI j1)), (2, .int (nI j2)), (3, .int sd), (0, .ref b)]) hx hb d_Model_agreement_121 hl (by decide) rfl (fun ls hl => ?_)
                        refine lv_iinc (v := ((nI (i + 1)) + 1)) (lv' := [(5, .int ((nI (i + 1)) + 1)), (4, .int (nI k)), (7, .int (g 8 (20 * i + j2))), (6, .int (g 8 (20 * i + j1))), (1, .int (nI j1)), (2, .int (nI j2)), (3, .int sd), (0, .ref b)]) hx hb d_Model_agreement_123 hl (k := 3) rfl rfl (by decide) rfl (fun ls hl => ?_)
                        refine lv_goto (tgt := 47) hx hb d_Model_agreement_126 (by decide) ?_
                        exact ih (i + 1) k ls (by omega) (by rw [hk]; exact (if_neg (fun q => q.1.2 c10)).symm) (by rw [nI_succ (i + 1)]; exact lv_sub hl [0, 1, 4, 5, 6, 7] rfl)
                      · skip
                        refine lv_iload_n hx hb d_Model_agreement_100 rfl (lv_at hl 6 rfl) ?_
                        refine lv_iconst (v := 1) hx hb d_Model_agreement_101 (by decide) ?_
                        refine lv_icmp_eq (tgt := 112) hx hb d_Model_agreement_102 (by decide) (fun c11 => ?_) (fun c11 => ?_)
                        · skip
                          refine lv_iload hx hb d_Model_agreement_112 (lv_at hl 3 rfl) ?_
                          refine lv_iconst (v := 1) hx hb d_Model_agreement_114 (by decide) ?_
                          refine lv_iadd hx hb d_Model_agreement_115 ?_
                          refine lv_goto (tgt := 121) hx hb d_Model_agreement_116 (by decide) ?_
                          refine lv_istore (lv' := [(4, .int ((nI k) + 1)), (7, .int (g 8 (20 * i + j2))), (6, .int (g 8 (20 * i + j1))), (5, .int (nI (i + 1))), (1, .int (nI j1)), (2, .int (nI j2)), (3, .int sd), (0, .ref b)]) hx hb d_Model_agreement_121 hl (by decide) rfl (fun ls hl => ?_)
                          refine lv_iinc (v := ((nI (i + 1)) + 1)) (lv' := [(5, .int ((nI (i + 1)) + 1)), (4, .int ((nI k) + 1)), (7, .int (g 8 (20 * i + j2))), (6, .int (g 8 (20 * i + j1))), (1, .int (nI j1)), (2, .int (nI j2)), (3, .int sd), (0, .ref b)]) hx hb d_Model_agreement_123 hl (k := 3) rfl rfl (by decide) rfl (fun ls hl => ?_)
                          refine lv_goto (tgt := 47) hx hb d_Model_agreement_126 (by decide) ?_
                          exact ih (i + 1) (k + 1) ls (by omega) (by rw [hk]; exact (if_pos ⟨⟨c9, c10⟩, Or.inl c11⟩).symm) (by rw [nI_succ (i + 1), nI_succ k]; exact lv_sub hl [0, 1, 4, 5, 6, 7] rfl)
                        · skip
                          refine lv_iload hx hb d_Model_agreement_105 (lv_at hl 1 rfl) ?_
                          refine lv_iload hx hb d_Model_agreement_107 (lv_at hl 0 rfl) ?_
                          refine lv_icmp_ne (tgt := 119) hx hb d_Model_agreement_109 (by decide) (fun c12 => ?_) (fun c12 => ?_)
                          · skip
                            refine lv_iload hx hb d_Model_agreement_119 (lv_at hl 3 rfl) ?_
                            refine lv_istore (lv' := [(4, .int (nI k)), (7, .int (g 8 (20 * i + j2))), (6, .int (g 8 (20 * i + j1))), (5, .int (nI (i + 1))), (1, .int (nI j1)), (2, .int (nI j2)), (3, .int sd), (0, .ref b)]) hx hb d_Model_agreement_121 hl (by decide) rfl (fun ls hl => ?_)
                            refine lv_iinc (v := ((nI (i + 1)) + 1)) (lv' := [(5, .int ((nI (i + 1)) + 1)), (4, .int (nI k)), (7, .int (g 8 (20 * i + j2))), (6, .int (g 8 (20 * i + j1))), (1, .int (nI j1)), (2, .int (nI j2)), (3, .int sd), (0, .ref b)]) hx hb d_Model_agreement_123 hl (k := 3) rfl rfl (by decide) rfl (fun ls hl => ?_)
                            refine lv_goto (tgt := 47) hx hb d_Model_agreement_126 (by decide) ?_
                            exact ih (i + 1) k ls (by omega) (by rw [hk]; exact (if_neg (fun q => Or.elim q.2 c11 c12)).symm) (by rw [nI_succ (i + 1)]; exact lv_sub hl [0, 1, 4, 5, 6, 7] rfl)
                          · skip
                            refine lv_iload hx hb d_Model_agreement_112 (lv_at hl 3 rfl) ?_
                            refine lv_iconst (v := 1) hx hb d_Model_agreement_114 (by decide) ?_
                            refine lv_iadd hx hb d_Model_agreement_115 ?_
                            refine lv_goto (tgt := 121) hx hb d_Model_agreement_116 (by decide) ?_
                            refine lv_istore (lv' := [(4, .int ((nI k) + 1)), (7, .int (g 8 (20 * i + j2))), (6, .int (g 8 (20 * i + j1))), (5, .int (nI (i + 1))), (1, .int (nI j1)), (2, .int (nI j2)), (3, .int sd), (0, .ref b)]) hx hb d_Model_agreement_121 hl (by decide) rfl (fun ls hl => ?_)
                            refine lv_iinc (v := ((nI (i + 1)) + 1)) (lv' := [(5, .int ((nI (i + 1)) + 1)), (4, .int ((nI k) + 1)), (7, .int (g 8 (20 * i + j2))), (6, .int (g 8 (20 * i + j1))), (1, .int (nI j1)), (2, .int (nI j2)), (3, .int sd), (0, .ref b)]) hx hb d_Model_agreement_123 hl (k := 3) rfl rfl (by decide) rfl (fun ls hl => ?_)
                            refine lv_goto (tgt := 47) hx hb d_Model_agreement_126 (by decide) ?_
                            exact ih (i + 1) (k + 1) ls (by omega) (by rw [hk]; exact (if_pos ⟨⟨c9, c10⟩, Or.inr c12⟩).symm) (by rw [nI_succ (i + 1), nI_succ k]; exact lv_sub hl [0, 1, 4, 5, 6, 7] rfl)
                exact loop n 0 0 ls (Nat.zero_add _).symm rfl (lv_sub hl [0, 1, 3, 4, 5, 2] rfl)
              · skip
                refine lv_ldc2 (v := (-102)) hx hb hown (hts _ k_Model_121) d_Model_agreement_37 ?_
                exact ret _ _ _ _ _ _ d_Model_agreement_40 hw (Or.inr ⟨j1, j2, hj1, hj2, rfl, rfl, Or.inl ⟨Or.inr c8, rfl, hm⟩⟩)
        · exact absurd c5 (by decide)
      · skip
        refine lv_if_ne (tgt := 23) hx hb d_Model_agreement_16 (by decide) (fun c13 => ?_) (fun c13 => ?_)
        · exact absurd c13 (by decide)
        · skip
          refine lv_ldc2 (v := (-101)) hx hb hown (hts _ k_Model_119) d_Model_agreement_19 ?_
          exact ret _ _ _ _ _ _ d_Model_agreement_22 hw (Or.inl ⟨(fun q => z4 q.2), rfl, hm⟩)
  · skip
    refine lv_if_eq (tgt := 19) hx hb d_Model_agreement_9 (by decide) (fun c14 => ?_) (fun c14 => ?_)
    · skip
      refine lv_ldc2 (v := (-101)) hx hb hown (hts _ k_Model_119) d_Model_agreement_19 ?_
      exact ret _ _ _ _ _ _ d_Model_agreement_22 hw (Or.inl ⟨(fun q => z2 q.1), rfl, hm⟩)
    · exact absurd c14 (by decide)

