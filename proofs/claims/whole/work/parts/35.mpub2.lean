abbrev rm_Model_take : Room := { frames := 0, cells := 0, slots := 0, locals := 0 }
set_option maxHeartbeats 4000000 in
set_option maxRecDepth 100000 in
theorem c_Model_take {l : Launch} {D : va_G} {ca : Nat → ClassId} {f : wd_M} {sz : Nat} (b : Nat) (AD : Nat → Nat) (th mo : Int32) (n : Nat) (nw : Int64) (lt : Int32) (du : Nat → Int64) (g : Nat → Nat → Int32) (hm : rM f ca b AD th mo n nw lt du g) (i : Nat) (hi : i < n) (k : Nat) (hk4 : g 4 (i + 1) = nI k) (hk2 : k ≤ 2) (x : Int32) : Met l y_Model_take (.code y_Model_take b_Model_take 6 none :: tb) rm_Model_take (va_Pc [.ref b, .int (nI (i + 1)), .int x] (wd_preZ D classes (ty ca) f sz)) (va_Qv (fun f' => (bl (g 5) i x k = true ∧ rM f' ca b AD th mo n nw lt du (tB g i k x)) ∨ (¬ bl (g 5) i x k = true ∧ nI k = 2 ∧ rM f' ca b AD th mo n nw lt du (tC g i k x)) ∨ (¬ bl (g 5) i x k = true ∧ ¬ nI k = 2 ∧ rM f' ca b AD th mo n nw lt du (tA g i k x))) (wd_B D classes f sz) (wd_A f sz)) 0 0 (wd_A f sz) := by
  refine wd_Qv (own := R_Model) (by decide) rfl (Nat.le_of_ble_eq_true rfl) ?_
  intro p e s m args below meth c Q X hK hnm hw ret ls hl
  have hx := X.1
  have hb := X.2.1
  have hown := X.2.2.2.1
  have hts := X.2.2.2.2
  have hl : lv_has ls 6 [(0, .ref b), (1, .int (nI (i + 1))), (2, .int x)] := hl
  have hn : n ≤ 300 := hm.2.2.2.2
  refine lv_aload_n hx hb d_Model_take_0 rfl (lv_at hl 0 rfl) ?_
  refine fg_Model_23 X hK hw hm.1 d_Model_take_1 ?_
  refine lv_iload_n hx hb d_Model_take_4 rfl (lv_at hl 1 rfl) ?_
  refine m_ld X hK hw hm (k := 4) (j := i + 1) (by decide) (by decide) rfl (by show i + 1 < 301; omega) d_Model_take_5 ?_
  rw [hk4]
  refine lv_istore_n (lv' := [(3, .int (nI k)), (0, .ref b), (1, .int (nI (i + 1))), (2, .int x)]) hx hb d_Model_take_6 rfl hl (by decide) rfl (fun ls hl => ?_)
  refine lv_iconst (v := 0) hx hb d_Model_take_7 (by decide) ?_
  refine lv_istore (lv' := [(4, .int 0), (3, .int (nI k)), (0, .ref b), (1, .int (nI (i + 1))), (2, .int x)]) hx hb d_Model_take_8 hl (by decide) rfl (fun ls hl => ?_)
  refine lv_iconst (v := 0) hx hb d_Model_take_10 (by decide) ?_
  refine lv_istore (lv' := [(5, .int 0), (4, .int 0), (3, .int (nI k)), (0, .ref b), (1, .int (nI (i + 1))), (2, .int x)]) hx hb d_Model_take_11 hl (by decide) rfl (fun ls hl => ?_)
  have loop : ∀ (d mk : Nat) (bb : Bool) (ls : Array Slot), k = mk + d → bb = bl (g 5) i x mk → lv_has ls 6 [(5, .int (nI mk)), (4, .int (zi bb)), (3, .int (nI k)), (1, .int (nI (i + 1))), (2, .int x), (0, .ref b)] → W p l e rm_Model_take s m args below meth c s.heap [] 0 0 Q (F0 m 13 ls []) := by
    intro d
    induction d with
    | zero =>
      intro mk bb ls hdd hbb hl
      have hin : mk = k := by omega
      refine lv_iload hx hb d_Model_take_13 (lv_at hl 0 rfl) ?_
      refine lv_iload_n hx hb d_Model_take_15 rfl (lv_at hl 2 rfl) ?_
      refine lv_icmp_ge (tgt := 52) hx hb d_Model_take_16 (by decide) (fun _ => ?_) (fun c => absurd (nI_le (Nat.le_of_eq hin.symm) (by omega)) c)
      refine lv_aload_n hx hb d_Model_take_52 rfl (lv_at hl 5 rfl) ?_
      refine fg_Model_26 X hK hw hm.1 d_Model_take_53 ?_
      refine lv_iconst (v := 3) hx hb d_Model_take_56 (by decide) ?_
      refine lv_iload_n hx hb d_Model_take_57 rfl (lv_at hl 3 rfl) ?_
      refine lv_imul hx hb d_Model_take_58 ?_
      refine lv_iload_n hx hb d_Model_take_59 rfl (lv_at hl 2 rfl) ?_
      refine lv_iadd hx hb d_Model_take_60 ?_
      refine lv_iload_n hx hb d_Model_take_61 rfl (lv_at hl 4 rfl) ?_
      rw [ix3k (i + 1) k]
      refine m_st X hK hw hm (k := 5) (j := 3 * (i + 1) + k) (by decide) (by decide) rfl (by show 3 * (i + 1) + k < 903; omega) d_Model_take_62 (fun f1 H locs hm hw => ?_)
      refine lv_aload_n hx hb d_Model_take_63 rfl (lv_at hl 5 rfl) ?_
      refine fg_Model_23 X hK hw hm.1 d_Model_take_64 ?_
      refine lv_iload_n hx hb d_Model_take_67 rfl (lv_at hl 3 rfl) ?_
      refine lv_dup2_11 hx hb d_Model_take_68 rfl rfl ?_
      refine m_ld X hK hw hm (k := 4) (j := i + 1) (by decide) (by decide) rfl (by show i + 1 < 301; omega) d_Model_take_69 ?_
      refine lv_iconst (v := 1) hx hb d_Model_take_70 (by decide) ?_
      refine lv_iadd hx hb d_Model_take_71 ?_
      refine m_st X hK hw hm (k := 4) (j := i + 1) (by decide) (by decide) rfl (by show i + 1 < 301; omega) d_Model_take_72 (fun f2 H locs hm hw => ?_)
      cases bb with
      | false =>
        have hl : lv_has ls 6 [(5, .int (nI mk)), (4, .int 0), (3, .int (nI k)), (1, .int (nI (i + 1))), (2, .int x), (0, .ref b)] := hl
        refine lv_iload hx hb d_Model_take_73 (lv_at hl 1 rfl) ?_
        refine lv_if_eq (tgt := 103) hx hb d_Model_take_75 (by decide) (fun c3 => ?_) (fun c3 => ?_)
        · skip
          refine lv_iload_n hx hb d_Model_take_103 rfl (lv_at hl 2 rfl) ?_
          refine lv_iconst (v := 2) hx hb d_Model_take_104 (by decide) ?_
          refine lv_icmp_ne (tgt := 115) hx hb d_Model_take_105 (by decide) (fun c4 => ?_) (fun c4 => ?_)
          · skip
            exact ret _ _ _ _ _ d_Model_take_115 hw (Or.inr (Or.inr ⟨(by rw [← hin, ← hbb]; exact fun q => by cases q), c4, hm⟩))
          · skip
            refine lv_aload_n hx hb d_Model_take_108 rfl (lv_at hl 5 rfl) ?_
            refine fg_Model_17 X hK hw hm.1 d_Model_take_109 ?_
            refine lv_iload_n hx hb d_Model_take_112 rfl (lv_at hl 3 rfl) ?_
            refine lv_iconst (v := 3) hx hb d_Model_take_113 (by decide) ?_
            refine m_st X hK hw hm (k := 2) (j := i + 1) (by decide) (by decide) rfl (by show i + 1 < 301; omega) d_Model_take_114 (fun f5 H locs hm hw => ?_)
            exact ret _ _ _ _ _ d_Model_take_115 hw (Or.inr (Or.inl ⟨(by rw [← hin, ← hbb]; exact fun q => by cases q), c4, hm⟩))
        · exact absurd c3 (by decide)
      | true =>
        have hl : lv_has ls 6 [(5, .int (nI mk)), (4, .int 1), (3, .int (nI k)), (1, .int (nI (i + 1))), (2, .int x), (0, .ref b)] := hl
        refine lv_iload hx hb d_Model_take_73 (lv_at hl 1 rfl) ?_
        refine lv_if_eq (tgt := 103) hx hb d_Model_take_75 (by decide) (fun c6 => ?_) (fun c6 => ?_)
        · exact absurd c6 (by decide)
        · skip
          refine lv_aload_n hx hb d_Model_take_78 rfl (lv_at hl 5 rfl) ?_
          refine fg_Model_17 X hK hw hm.1 d_Model_take_79 ?_
          refine lv_iload_n hx hb d_Model_take_82 rfl (lv_at hl 3 rfl) ?_
          refine lv_iload_n hx hb d_Model_take_83 rfl (lv_at hl 4 rfl) ?_
          refine lv_if_le (tgt := 91) hx hb d_Model_take_84 (by decide) (fun c7 => ?_) (fun c7 => ?_)
          · skip
            refine lv_iconst (v := 3) hx hb d_Model_take_91 (by decide) ?_
            refine m_st X hK hw hm (k := 2) (j := i + 1) (by decide) (by decide) rfl (by show i + 1 < 301; omega) d_Model_take_92 (fun f8 H locs hm hw => ?_)
            refine lv_aload_n hx hb d_Model_take_93 rfl (lv_at hl 5 rfl) ?_
            refine fg_Model_20 X hK hw hm.1 d_Model_take_94 ?_
            refine lv_iload_n hx hb d_Model_take_97 rfl (lv_at hl 3 rfl) ?_
            refine lv_iload_n hx hb d_Model_take_98 rfl (lv_at hl 4 rfl) ?_
            refine m_st X hK hw hm (k := 3) (j := i + 1) (by decide) (by decide) rfl (by show i + 1 < 301; omega) d_Model_take_99 (fun f9 H locs hm hw => ?_)
            refine lv_goto (tgt := 115) hx hb d_Model_take_100 (by decide) ?_
            exact ret _ _ _ _ _ d_Model_take_115 hw (Or.inl ⟨by rw [← hin, ← hbb], by unfold tB; rw [if_pos c7]; exact hm⟩)
          · skip
            refine lv_iconst (v := 2) hx hb d_Model_take_87 (by decide) ?_
            refine lv_goto (tgt := 92) hx hb d_Model_take_88 (by decide) ?_
            refine m_st X hK hw hm (k := 2) (j := i + 1) (by decide) (by decide) rfl (by show i + 1 < 301; omega) d_Model_take_92 (fun f10 H locs hm hw => ?_)
            refine lv_aload_n hx hb d_Model_take_93 rfl (lv_at hl 5 rfl) ?_
            refine fg_Model_20 X hK hw hm.1 d_Model_take_94 ?_
            refine lv_iload_n hx hb d_Model_take_97 rfl (lv_at hl 3 rfl) ?_
            refine lv_iload_n hx hb d_Model_take_98 rfl (lv_at hl 4 rfl) ?_
            refine m_st X hK hw hm (k := 3) (j := i + 1) (by decide) (by decide) rfl (by show i + 1 < 301; omega) d_Model_take_99 (fun f11 H locs hm hw => ?_)
            refine lv_goto (tgt := 115) hx hb d_Model_take_100 (by decide) ?_
            exact ret _ _ _ _ _ d_Model_take_115 hw (Or.inl ⟨by rw [← hin, ← hbb], by unfold tB; rw [if_neg c7]; exact hm⟩)
    | succ d ih =>
      intro mk bb ls hdd hbb hl
      have hin : mk < k := by omega
      refine lv_iload hx hb d_Model_take_13 (lv_at hl 0 rfl) ?_
      refine lv_iload_n hx hb d_Model_take_15 rfl (lv_at hl 2 rfl) ?_
      refine lv_icmp_ge (tgt := 52) hx hb d_Model_take_16 (by decide) (fun c => absurd c (nI_ge hin (by omega))) (fun _ => ?_)
      cases bb with
      | false =>
        have hl : lv_has ls 6 [(5, .int (nI mk)), (4, .int 0), (3, .int (nI k)), (1, .int (nI (i + 1))), (2, .int x), (0, .ref b)] := hl
        refine lv_iload hx hb d_Model_take_19 (lv_at hl 1 rfl) ?_
        refine lv_if_ne (tgt := 39) hx hb d_Model_take_21 (by decide) (fun c12 => ?_) (fun c12 => ?_)
        · exact absurd c12 (by decide)
        · skip
          refine lv_aload_n hx hb d_Model_take_24 rfl (lv_at hl 5 rfl) ?_
          refine fg_Model_26 X hK hw hm.1 d_Model_take_25 ?_
          refine lv_iconst (v := 3) hx hb d_Model_take_28 (by decide) ?_
          refine lv_iload_n hx hb d_Model_take_29 rfl (lv_at hl 3 rfl) ?_
          refine lv_imul hx hb d_Model_take_30 ?_
          refine lv_iload hx hb d_Model_take_31 (lv_at hl 0 rfl) ?_
          refine lv_iadd hx hb d_Model_take_33 ?_
          rw [ix3k (i + 1) mk]
          refine m_ld X hK hw hm (k := 5) (j := 3 * (i + 1) + mk) (by decide) (by decide) rfl (by show 3 * (i + 1) + mk < 903; omega) d_Model_take_34 ?_
          refine lv_iload_n hx hb d_Model_take_35 rfl (lv_at hl 4 rfl) ?_
          refine lv_icmp_ne (tgt := 43) hx hb d_Model_take_36 (by decide) (fun c13 => ?_) (fun c13 => ?_)
          · skip
            refine lv_iconst (v := 0) hx hb d_Model_take_43 (by decide) ?_
            refine lv_istore (lv' := [(4, .int 0), (5, .int (nI mk)), (3, .int (nI k)), (1, .int (nI (i + 1))), (2, .int x), (0, .ref b)]) hx hb d_Model_take_44 hl (by decide) rfl (fun ls hl => ?_)
            refine lv_iinc (v := ((nI mk) + 1)) (lv' := [(5, .int ((nI mk) + 1)), (4, .int 0), (3, .int (nI k)), (1, .int (nI (i + 1))), (2, .int x), (0, .ref b)]) hx hb d_Model_take_46 hl (k := 1) rfl rfl (by decide) rfl (fun ls hl => ?_)
            refine lv_goto (tgt := 13) hx hb d_Model_take_49 (by decide) ?_
            exact ih (mk + 1) false ls (by omega) (by simp [bl, ← hbb, c13]) (by rw [nI_succ mk]; exact lv_sub hl [0, 1, 2, 3, 4, 5] rfl)
          · skip
            refine lv_iconst (v := 1) hx hb d_Model_take_39 (by decide) ?_
            refine lv_goto (tgt := 44) hx hb d_Model_take_40 (by decide) ?_
            refine lv_istore (lv' := [(4, .int 1), (5, .int (nI mk)), (3, .int (nI k)), (1, .int (nI (i + 1))), (2, .int x), (0, .ref b)]) hx hb d_Model_take_44 hl (by decide) rfl (fun ls hl => ?_)
            refine lv_iinc (v := ((nI mk) + 1)) (lv' := [(5, .int ((nI mk) + 1)), (4, .int 1), (3, .int (nI k)), (1, .int (nI (i + 1))), (2, .int x), (0, .ref b)]) hx hb d_Model_take_46 hl (k := 1) rfl rfl (by decide) rfl (fun ls hl => ?_)
            refine lv_goto (tgt := 13) hx hb d_Model_take_49 (by decide) ?_
            exact ih (mk + 1) true ls (by omega) (by simp [bl, ← hbb, c13]) (by rw [nI_succ mk]; exact lv_sub hl [0, 1, 2, 3, 4, 5] rfl)
      | true =>
        have hl : lv_has ls 6 [(5, .int (nI mk)), (4, .int 1), (3, .int (nI k)), (1, .int (nI (i + 1))), (2, .int x), (0, .ref b)] := hl
        refine lv_iload hx hb d_Model_take_19 (lv_at hl 1 rfl) ?_
        refine lv_if_ne (tgt := 39) hx hb d_Model_take_21 (by decide) (fun c14 => ?_) (fun c14 => ?_)
        · skip
          refine lv_iconst (v := 1) hx hb d_Model_take_39 (by decide) ?_
          refine lv_goto (tgt := 44) hx hb d_Model_take_40 (by decide) ?_
          refine lv_istore (lv' := [(4, .int 1), (5, .int (nI mk)), (3, .int (nI k)), (1, .int (nI (i + 1))), (2, .int x), (0, .ref b)]) hx hb d_Model_take_44 hl (by decide) rfl (fun ls hl => ?_)
          refine lv_iinc (v := ((nI mk) + 1)) (lv' := [(5, .int ((nI mk) + 1)), (4, .int 1), (3, .int (nI k)), (1, .int (nI (i + 1))), (2, .int x), (0, .ref b)]) hx hb d_Model_take_46 hl (k := 1) rfl rfl (by decide) rfl (fun ls hl => ?_)
          refine lv_goto (tgt := 13) hx hb d_Model_take_49 (by decide) ?_
          exact ih (mk + 1) true ls (by omega) (by simp [bl, ← hbb]) (by rw [nI_succ mk]; exact lv_sub hl [0, 1, 2, 3, 4, 5] rfl)
        · exact absurd c14 (by decide)
  exact loop k 0 false ls (Nat.zero_add _).symm rfl (lv_sub hl [0, 1, 2, 4, 5, 3] rfl)

abbrev rm_Model_give : Room := { frames := 3, cells := 0, slots := 0, locals := 69 }
set_option maxHeartbeats 4000000 in
set_option maxRecDepth 100000 in
theorem c_Model_give {l : Launch} {D : va_G} {ca : Nat → ClassId} {f : wd_M} {sz : Nat} (b : Nat) (AD : Nat → Nat) (th mo : Int32) (n : Nat) (nw : Int64) (lt : Int32) (du : Nat → Int64) (g : Nat → Nat → Int32) (hm : rM f ca b AD th mo n nw lt du g) (x : Int32) (t : Int64) : Met l y_Model_give (.code y_Model_give b_Model_give 6 (some .int) :: tb) rm_Model_give (va_Pc [.ref b, .int x, .long t] (wd_preZ D classes (ty ca) f sz)) (va_Qi (fun r f' => (¬ okK x ∧ r = -101 ∧ rM f' ca b AD 0 mo n nw lt du g) ∨ ∃ j : Nat, j < 20 ∧ x = nI j ∧ ((¬ isT nw t ∧ r = -102 ∧ rM f' ca b AD 0 mo n nw lt du g) ∨ (isT nw t ∧ (((g 9 j = 0 ∨ ¬ nI (hd (g 6) j n) ≤ 0) ∧ r = -103 ∧ rM f' ca b AD 0 mo n nw lt du g) ∨ ((¬ g 9 j = 0 ∧ nI (hd (g 6) j n) ≤ 0) ∧ ((mbs du (fun i => decide (mfr (pG g t du n) i j)) n n = 0 ∧ r = 0 ∧ rM f' ca b AD 0 mo n t (lt + nI (mC t du (g 2) n)) du (pG g t du n)) ∨ ∃ b1 : Nat, mbs du (fun i => decide (mfr (pG g t du n) i j)) n n = b1 + 1 ∧ r = nI (b1 + 1) ∧ rM f' ca b AD 0 mo n t (lt + nI (mC t du (g 2) n)) du (gG (pG g t du n) b1 j))))))) (wd_B D classes f sz) (wd_A f sz)) 0 0 (wd_A f sz) := by
  refine wd_Qi (own := R_Model) (by decide) rfl (Nat.le_of_ble_eq_true rfl) ?_
  intro p e s m args below meth c Q X hK hw ret ls hl
  have hx := X.1
  have hb := X.2.1
  have hown := X.2.2.2.1
  have hts := X.2.2.2.2
  have hl : lv_has ls 6 [(0, .ref b), (1, .int x), (2, .long t)] := hl
  have hn : n ≤ 300 := hm.2.2.2.2
  refine lv_aload_n hx hb d_Model_give_0 rfl (lv_at hl 0 rfl) ?_
  refine lv_iconst (v := 0) hx hb d_Model_give_1 (by decide) ?_
  refine fp_Model_52 X hK hw hm.1 rfl rfl d_Model_give_2 (fun f1 H locs ef1 hw => ?_)
  have hm : rM f1 ca b AD 0 mo n nw lt du g := rM_obj hm ef1 hm.2.2.2.2
  refine lv_iload_n hx hb d_Model_give_5 rfl (lv_at hl 1 rfl) ?_
  refine wd_csi (As := [.int x]) (rest := []) X hK hw (c_Model_isClerk x) (cw_Model_90 hts rfl rfl ⟨(Nat.le_of_ble_eq_true rfl), (Nat.le_of_ble_eq_true rfl)⟩) rfl hl.1 rfl (Nat.le_of_ble_eq_true rfl) d_Model_give_6 ⟨(Nat.le_of_ble_eq_true rfl), (Nat.le_of_ble_eq_true rfl)⟩ (fun r hz => ?_)
  rcases hz with ⟨z2, rfl⟩ | ⟨z2, rfl⟩
  · skip
    obtain ⟨j, hj, hxj⟩ := ok20 z2.1 z2.2
    subst hxj
    refine lv_if_ne (tgt := 15) hx hb d_Model_give_9 (by decide) (fun c3 => ?_) (fun c3 => ?_)
    · skip
      refine lv_aload_n hx hb d_Model_give_15 rfl (lv_at hl 0 rfl) ?_
      refine lv_lload_n hx hb d_Model_give_16 rfl (lv_at hl 2 rfl) ?_
      refine wd_cvi (As := [.long t]) (rest := []) X hK hw (c_Model_isTime b AD 0 mo n nw lt du g hm t) (cw_Model_70 hts rfl rfl ⟨(Nat.le_of_ble_eq_true rfl), (Nat.le_of_ble_eq_true rfl)⟩) hm.1 rfl rfl rfl hl.1 rfl (Nat.le_of_ble_eq_true rfl) d_Model_give_17 ⟨(Nat.le_of_ble_eq_true rfl), (Nat.le_of_ble_eq_true rfl)⟩ (fun r hz => ?_)
      rcases hz with ⟨z4, rfl⟩ | ⟨z4, rfl⟩
      · skip
        refine lv_if_ne (tgt := 26) hx hb d_Model_give_20 (by decide) (fun c5 => ?_) (fun c5 => ?_)
        · skip
          refine lv_aload_n hx hb d_Model_give_26 rfl (lv_at hl 0 rfl) ?_
          refine fg_Model_38 X hK hw hm.1 d_Model_give_27 ?_
          refine lv_iload_n hx hb d_Model_give_30 rfl (lv_at hl 1 rfl) ?_
          refine m_ldz X hK hw hm (j := j) (by omega) d_Model_give_31 ?_
          refine lv_if_eq (tgt := 43) hx hb d_Model_give_32 (by decide) (fun c6 => ?_) (fun c6 => ?_)
          · skip
            refine lv_bipush (v := (-103)) hx hb d_Model_give_43 (by decide) ?_
            exact ret _ _ _ _ _ _ d_Model_give_45 hw (Or.inr ⟨j, hj, rfl, Or.inr ⟨z4, Or.inl ⟨Or.inl c6, rfl, hm⟩⟩⟩)
          · skip
            refine lv_aload_n hx hb d_Model_give_35 rfl (lv_at hl 0 rfl) ?_
            refine lv_iload_n hx hb d_Model_give_36 rfl (lv_at hl 1 rfl) ?_
            refine wd_cvi (As := [.int (nI j)]) (rest := []) X hK hw (c_Model_held b AD 0 mo n nw lt du g hm j hj) (cw_Model_93 hts rfl rfl ⟨(Nat.le_of_ble_eq_true rfl), (Nat.le_of_ble_eq_true rfl)⟩) hm.1 rfl rfl rfl hl.1 rfl (Nat.le_of_ble_eq_true rfl) d_Model_give_37 ⟨(Nat.le_of_ble_eq_true rfl), (Nat.le_of_ble_eq_true rfl)⟩ (fun r hz => ?_)
            subst hz
            refine lv_if_le (tgt := 46) hx hb d_Model_give_40 (by decide) (fun c7 => ?_) (fun c7 => ?_)
            · skip
              refine lv_aload_n hx hb d_Model_give_46 rfl (lv_at hl 0 rfl) ?_
              refine lv_lload_n hx hb d_Model_give_47 rfl (lv_at hl 2 rfl) ?_
              refine wd_mvv (As := [.long t]) (rest := []) X hK hw (c_Model_pass b AD 0 mo n nw lt du g hm t) (cw_Model_97 hts rfl rfl ⟨(Nat.le_of_ble_eq_true rfl), (Nat.le_of_ble_eq_true rfl)⟩) hm.1 rfl rfl rfl hl.1 rfl (Nat.le_of_ble_eq_true rfl) d_Model_give_48 ⟨(Nat.le_of_ble_eq_true rfl), (Nat.le_of_ble_eq_true rfl)⟩ (fun f8 H locs hm hw => ?_)
              refine lv_iconst (v := 0) hx hb d_Model_give_51 (by decide) ?_
              refine lv_istore (lv' := [(4, .int 0), (0, .ref b), (1, .int (nI j)), (2, .long t)]) hx hb d_Model_give_52 hl (by decide) rfl (fun ls hl => ?_)
              refine lv_aload_n hx hb d_Model_give_54 rfl (lv_at hl 1 rfl) ?_
              refine fg_Model_55 X hK hw hm.1 d_Model_give_55 ?_
              refine lv_istore (lv' := [(5, .int (nI n)), (4, .int 0), (0, .ref b), (1, .int (nI j)), (2, .long t)]) hx hb d_Model_give_58 hl (by decide) rfl (fun ls hl => ?_)
              have loop : ∀ (q k : Nat) (ls : Array Slot), q ≤ n → k = mbs du (fun i => decide (mfr (pG g t du n) i j)) n (n - q) → lv_has ls 6 [(5, .int (nI q)), (4, .int (nI k)), (0, .ref b), (1, .int (nI j)), (2, .long t)] → W p l e rm_Model_give s m args below meth c H locs 0 0 Q (F0 m 60 ls []) := by
                intro q
                induction q with
                | zero =>
                  intro k ls hqn hkk hl
                  have hkn : k ≤ n := by rw [hkk]; exact mbs_le _
                  refine lv_iload hx hb d_Model_give_60 (lv_at hl 0 rfl) ?_
                  refine lv_if_le (tgt := 113) hx hb d_Model_give_62 (by decide) (fun _ => ?_) (fun c => absurd (by decide) c)
                  refine lv_iload hx hb d_Model_give_113 (lv_at hl 1 rfl) ?_
                  refine lv_if_le (tgt := 155) hx hb d_Model_give_115 (by decide) (fun c9 => ?_) (fun c9 => ?_)
                  · skip
                    refine lv_iload hx hb d_Model_give_155 (lv_at hl 1 rfl) ?_
                    exact ret _ _ _ _ _ _ d_Model_give_157 hw (Or.inr ⟨j, hj, rfl, Or.inr ⟨z4, Or.inr ⟨⟨c6, c7⟩, Or.inl ⟨hkk.symm.trans ((nI_le0 (by omega)).mp c9), by rw [(nI_le0 (by omega)).mp c9]; rfl, hm⟩⟩⟩⟩)
                  · skip
                    obtain ⟨b1, hb1⟩ : ∃ b1, k = b1 + 1 := ⟨k - 1, by have h0 : k ≠ 0 := fun q => c9 ((nI_le0 (by omega)).mpr q); omega⟩
                    subst hb1
                    refine lv_aload_n hx hb d_Model_give_118 rfl (lv_at hl 2 rfl) ?_
                    refine fg_Model_29 X hK hw hm.1 d_Model_give_119 ?_
                    refine lv_bipush (v := 20) hx hb d_Model_give_122 (by decide) ?_
                    refine lv_iload hx hb d_Model_give_124 (lv_at hl 1 rfl) ?_
                    refine lv_imul hx hb d_Model_give_126 ?_
                    refine lv_iload_n hx hb d_Model_give_127 rfl (lv_at hl 3 rfl) ?_
                    refine lv_iadd hx hb d_Model_give_128 ?_
                    refine lv_bipush (v := 20) hx hb d_Model_give_129 (by decide) ?_
                    refine lv_isub hx hb d_Model_give_131 ?_
                    refine lv_iconst (v := 2) hx hb d_Model_give_132 (by decide) ?_
                    rw [ix20 b1 j]
                    refine m_st X hK hw hm (k := 6) (j := 20 * b1 + j) (by decide) (by decide) rfl (by show 20 * b1 + j < 6020; omega) d_Model_give_133 (fun f10 H locs hm hw => ?_)
                    refine lv_aload_n hx hb d_Model_give_134 rfl (lv_at hl 2 rfl) ?_
                    refine fg_Model_32 X hK hw hm.1 d_Model_give_135 ?_
                    refine lv_bipush (v := 20) hx hb d_Model_give_138 (by decide) ?_
                    refine lv_iload hx hb d_Model_give_140 (lv_at hl 1 rfl) ?_
                    refine lv_imul hx hb d_Model_give_142 ?_
                    refine lv_iload_n hx hb d_Model_give_143 rfl (lv_at hl 3 rfl) ?_
                    refine lv_iadd hx hb d_Model_give_144 ?_
                    refine lv_bipush (v := 20) hx hb d_Model_give_145 (by decide) ?_
                    refine lv_isub hx hb d_Model_give_147 ?_
                    refine lv_aload_n hx hb d_Model_give_148 rfl (lv_at hl 2 rfl) ?_
                    refine fg_Model_42 X hK hw hm.1 d_Model_give_149 ?_
                    refine lv_iload_n hx hb d_Model_give_152 rfl (lv_at hl 3 rfl) ?_
                    refine m_ld X hK hw hm (k := 10) (j := j) (by decide) (by decide) rfl (by show j < 20; omega) d_Model_give_153 ?_
                    rw [ix20 b1 j]
                    refine m_st X hK hw hm (k := 7) (j := 20 * b1 + j) (by decide) (by decide) rfl (by show 20 * b1 + j < 6020; omega) d_Model_give_154 (fun f11 H locs hm hw => ?_)
                    refine lv_iload hx hb d_Model_give_155 (lv_at hl 1 rfl) ?_
                    exact ret _ _ _ _ _ _ d_Model_give_157 hw (Or.inr ⟨j, hj, rfl, Or.inr ⟨z4, Or.inr ⟨⟨c6, c7⟩, Or.inr ⟨b1, hkk.symm, rfl, hm⟩⟩⟩⟩)
                | succ q ih =>
                  intro k ls hqn hkk hl
                  have hkn : k ≤ n := by rw [hkk]; exact mbs_le _
                  have hq : q < n := hqn
                  refine lv_iload hx hb d_Model_give_60 (lv_at hl 0 rfl) ?_
                  refine lv_if_le (tgt := 113) hx hb d_Model_give_62 (by decide) (fun c => absurd ((nI_le0 (by omega)).mp c) (by omega)) (fun _ => ?_)
                  refine lv_aload_n hx hb d_Model_give_65 rfl (lv_at hl 2 rfl) ?_
                  refine lv_iload hx hb d_Model_give_66 (lv_at hl 0 rfl) ?_
                  refine lv_iload_n hx hb d_Model_give_68 rfl (lv_at hl 3 rfl) ?_
                  refine wd_cvi (As := [.int (nI (q + 1)), .int (nI j)]) (rest := []) X hK hw (c_Model_isFree b AD 0 mo n t (lt + nI (mC t du (g 2) n)) du (va_up g 2 (mE t du (g 2) n)) hm q hq j hj) (cw_Model_101 hts rfl rfl ⟨(Nat.le_of_ble_eq_true rfl), (Nat.le_of_ble_eq_true rfl)⟩) hm.1 rfl rfl rfl hl.1 rfl (Nat.le_of_ble_eq_true rfl) d_Model_give_69 ⟨(Nat.le_of_ble_eq_true rfl), (Nat.le_of_ble_eq_true rfl)⟩ (fun r hz => ?_)
                  rcases hz with ⟨z12, rfl⟩ | ⟨z12, rfl⟩
                  · skip
                    refine lv_if_eq (tgt := 103) hx hb d_Model_give_72 (by decide) (fun c13 => ?_) (fun c13 => ?_)
                    · exact absurd c13 (by decide)
                    · skip
                      refine lv_iload hx hb d_Model_give_75 (lv_at hl 1 rfl) ?_
                      refine lv_if_eq (tgt := 98) hx hb d_Model_give_77 (by decide) (fun c14 => ?_) (fun c14 => ?_)
                      · skip
                        refine lv_iload hx hb d_Model_give_98 (lv_at hl 0 rfl) ?_
                        refine lv_goto (tgt := 105) hx hb d_Model_give_100 (by decide) ?_
                        refine lv_istore (lv' := [(4, .int (nI (q + 1))), (5, .int (nI (q + 1))), (0, .ref b), (1, .int (nI j)), (2, .long t)]) hx hb d_Model_give_105 hl (by decide) rfl (fun ls hl => ?_)
                        refine lv_iinc (v := ((nI (q + 1)) + (-1))) (lv' := [(5, .int ((nI (q + 1)) + (-1))), (4, .int (nI (q + 1))), (0, .ref b), (1, .int (nI j)), (2, .long t)]) hx hb d_Model_give_107 hl (k := 1) rfl rfl (by decide) rfl (fun ls hl => ?_)
                        refine lv_goto (tgt := 60) hx hb d_Model_give_110 (by decide) ?_
                        exact ih (q + 1) ls (Nat.le_of_lt hq) (mbs_t hq hkk (decide_eq_true z12) (Or.inl ((nI_is0 (by omega)).mp c14))) (by rw [← pk_m1 q]; exact lv_sub hl [0, 1, 2, 3, 4] rfl)
                      · skip
                        refine lv_aload_n hx hb d_Model_give_80 rfl (lv_at hl 2 rfl) ?_
                        refine fg_Model_7 X hK hw hm.1 d_Model_give_81 ?_
                        refine lv_iload hx hb d_Model_give_84 (lv_at hl 0 rfl) ?_
                        refine m_ldl X hK hw hm (j := q + 1) (by omega) d_Model_give_86 ?_
                        refine lv_aload_n hx hb d_Model_give_87 rfl (lv_at hl 2 rfl) ?_
                        refine fg_Model_7 X hK hw hm.1 d_Model_give_88 ?_
                        refine lv_iload hx hb d_Model_give_91 (lv_at hl 1 rfl) ?_
                        refine m_ldl X hK hw hm (j := k) (by omega) d_Model_give_93 ?_
                        refine W.lcmp hx hb d_Model_give_94 ?_
                        refine lv_if_gt (tgt := 103) hx hb d_Model_give_95 (by decide) (fun c15 => ?_) (fun c15 => ?_)
                        · skip
                          refine lv_iload hx hb d_Model_give_103 (lv_at hl 1 rfl) ?_
                          refine lv_istore (lv' := [(4, .int (nI k)), (5, .int (nI (q + 1))), (0, .ref b), (1, .int (nI j)), (2, .long t)]) hx hb d_Model_give_105 hl (by decide) rfl (fun ls hl => ?_)
                          refine lv_iinc (v := ((nI (q + 1)) + (-1))) (lv' := [(5, .int ((nI (q + 1)) + (-1))), (4, .int (nI k)), (0, .ref b), (1, .int (nI j)), (2, .long t)]) hx hb d_Model_give_107 hl (k := 1) rfl rfl (by decide) rfl (fun ls hl => ?_)
                          refine lv_goto (tgt := 60) hx hb d_Model_give_110 (by decide) ?_
                          exact ih k ls (Nat.le_of_lt hq) (mbs_f hq hkk (fun z => Or.elim z.2 (fun y => c14 ((nI_is0 (by omega)).mpr y)) (fun y => y (cmp_gt c15)))) (by rw [← pk_m1 q]; exact lv_sub hl [0, 1, 2, 3, 4] rfl)
                        · skip
                          refine lv_iload hx hb d_Model_give_98 (lv_at hl 0 rfl) ?_
                          refine lv_goto (tgt := 105) hx hb d_Model_give_100 (by decide) ?_
                          refine lv_istore (lv' := [(4, .int (nI (q + 1))), (5, .int (nI (q + 1))), (0, .ref b), (1, .int (nI j)), (2, .long t)]) hx hb d_Model_give_105 hl (by decide) rfl (fun ls hl => ?_)
                          refine lv_iinc (v := ((nI (q + 1)) + (-1))) (lv' := [(5, .int ((nI (q + 1)) + (-1))), (4, .int (nI (q + 1))), (0, .ref b), (1, .int (nI j)), (2, .long t)]) hx hb d_Model_give_107 hl (k := 1) rfl rfl (by decide) rfl (fun ls hl => ?_)
                          refine lv_goto (tgt := 60) hx hb d_Model_give_110 (by decide) ?_
                          exact ih (q + 1) ls (Nat.le_of_lt hq) (mbs_t hq hkk (decide_eq_true z12) (Or.inr (cmp_ngt c15))) (by rw [← pk_m1 q]; exact lv_sub hl [0, 1, 2, 3, 4] rfl)
                  · skip
                    refine lv_if_eq (tgt := 103) hx hb d_Model_give_72 (by decide) (fun c16 => ?_) (fun c16 => ?_)
                    · skip
                      refine lv_iload hx hb d_Model_give_103 (lv_at hl 1 rfl) ?_
                      refine lv_istore (lv' := [(4, .int (nI k)), (5, .int (nI (q + 1))), (0, .ref b), (1, .int (nI j)), (2, .long t)]) hx hb d_Model_give_105 hl (by decide) rfl (fun ls hl => ?_)
                      refine lv_iinc (v := ((nI (q + 1)) + (-1))) (lv' := [(5, .int ((nI (q + 1)) + (-1))), (4, .int (nI k)), (0, .ref b), (1, .int (nI j)), (2, .long t)]) hx hb d_Model_give_107 hl (k := 1) rfl rfl (by decide) rfl (fun ls hl => ?_)
                      refine lv_goto (tgt := 60) hx hb d_Model_give_110 (by decide) ?_
                      exact ih k ls (Nat.le_of_lt hq) (mbs_f hq hkk (fun z => z12 (of_decide_eq_true z.1))) (by rw [← pk_m1 q]; exact lv_sub hl [0, 1, 2, 3, 4] rfl)
                    · exact absurd c16 (by decide)
              exact loop n 0 ls (Nat.le_refl n) (by rw [Nat.sub_self]; rfl) (lv_sub hl [0, 1, 2, 3, 4] rfl)
            · skip
              refine lv_bipush (v := (-103)) hx hb d_Model_give_43 (by decide) ?_
              exact ret _ _ _ _ _ _ d_Model_give_45 hw (Or.inr ⟨j, hj, rfl, Or.inr ⟨z4, Or.inl ⟨Or.inr c7, rfl, hm⟩⟩⟩)
        · exact absurd c5 (by decide)
      · skip
        refine lv_if_ne (tgt := 26) hx hb d_Model_give_20 (by decide) (fun c17 => ?_) (fun c17 => ?_)
        · exact absurd c17 (by decide)
        · skip
          refine lv_bipush (v := (-102)) hx hb d_Model_give_23 (by decide) ?_
          exact ret _ _ _ _ _ _ d_Model_give_25 hw (Or.inr ⟨j, hj, rfl, Or.inl ⟨z4, rfl, hm⟩⟩)
    · exact absurd c3 (by decide)
  · skip
    refine lv_if_ne (tgt := 15) hx hb d_Model_give_9 (by decide) (fun c18 => ?_) (fun c18 => ?_)
    · exact absurd c18 (by decide)
    · skip
      refine lv_bipush (v := (-101)) hx hb d_Model_give_12 (by decide) ?_
      exact ret _ _ _ _ _ _ d_Model_give_14 hw (Or.inl ⟨z2, rfl, hm⟩)

abbrev rm_Model_answer : Room := { frames := 3, cells := 0, slots := 0, locals := 65 }
set_option maxHeartbeats 4000000 in
set_option maxRecDepth 100000 in
theorem c_Model_answer {l : Launch} {D : va_G} {ca : Nat → ClassId} {f : wd_M} {sz : Nat} (b : Nat) (AD : Nat → Nat) (th mo : Int32) (n : Nat) (nw : Int64) (lt : Int32) (du : Nat → Int64) (g : Nat → Nat → Int32) (hm : rM f ca b AD th mo n nw lt du g) (hA : ∀ i : Nat, i < n → g 2 (i + 1) = 0 → ∃ k : Nat, k ≤ 2 ∧ g 4 (i + 1) = nI k) (x y en : Int32) (t : Int64) : Met l y_Model_answer (.code y_Model_answer b_Model_answer 6 (some .int) :: tb) rm_Model_answer (va_Pc [.ref b, .int x, .int y, .int en, .long t] (wd_preZ D classes (ty ca) f sz)) (va_Qi (fun r f' => ((¬ okK x ∨ ¬ (¬ y < 1 ∧ ¬ nI n < y)) ∧ r = -101 ∧ rM f' ca b AD 0 mo n nw lt du g) ∨ ∃ j i : Nat, j < 20 ∧ i < n ∧ x = nI j ∧ y = nI (i + 1) ∧ ((¬ (wi en 9999 ∧ isT nw t) ∧ r = -102 ∧ rM f' ca b AD 0 mo n nw lt du g) ∨ ((wi en 9999 ∧ isT nw t) ∧ ((¬ nI (hd (g 6) j n) = nI (i + 1) ∧ r = -103 ∧ rM f' ca b AD 0 mo n nw lt du g) ∨ (nI (hd (g 6) j n) = nI (i + 1) ∧ ∃ G : Nat → Nat → Int32, rM f' ca b AD 0 mo n t (lt + nI (mC t du (g 2) n)) du G ∧ r = mst G i ∧ ((¬ (aG g t du n i j en) 2 (i + 1) = 0 ∧ G = (aG g t du n i j en)) ∨ ((aG g t du n i j en) 2 (i + 1) = 0 ∧ ∃ k : Nat, k ≤ 2 ∧ g 4 (i + 1) = nI k ∧ ((bl ((aG g t du n i j en) 5) i en k = true ∧ G = tB (aG g t du n i j en) i k en) ∨ (¬ bl ((aG g t du n i j en) 5) i en k = true ∧ nI k = 2 ∧ G = tC (aG g t du n i j en) i k en) ∨ (¬ bl ((aG g t du n i j en) 5) i en k = true ∧ ¬ nI k = 2 ∧ G = tA (aG g t du n i j en) i k en))))))))) (wd_B D classes f sz) (wd_A f sz)) 0 0 (wd_A f sz) := by
  refine wd_Qi (own := R_Model) (by decide) rfl (Nat.le_of_ble_eq_true rfl) ?_
  intro p e s m args below meth c Q X hK hw ret ls hl
  have hx := X.1
  have hb := X.2.1
  have hown := X.2.2.2.1
  have hts := X.2.2.2.2
  have hl : lv_has ls 6 [(0, .ref b), (1, .int x), (2, .int y), (3, .int en), (4, .long t)] := hl
  have hn : n ≤ 300 := hm.2.2.2.2
  refine lv_aload_n hx hb d_Model_answer_0 rfl (lv_at hl 0 rfl) ?_
  refine lv_iconst (v := 0) hx hb d_Model_answer_1 (by decide) ?_
  refine fp_Model_52 X hK hw hm.1 rfl rfl d_Model_answer_2 (fun f1 H locs ef1 hw => ?_)
  have hm : rM f1 ca b AD 0 mo n nw lt du g := rM_obj hm ef1 hm.2.2.2.2
  refine lv_iload_n hx hb d_Model_answer_5 rfl (lv_at hl 1 rfl) ?_
  refine wd_csi (As := [.int x]) (rest := []) X hK hw (c_Model_isClerk x) (cw_Model_90 hts rfl rfl ⟨(Nat.le_of_ble_eq_true rfl), (Nat.le_of_ble_eq_true rfl)⟩) rfl hl.1 rfl (Nat.le_of_ble_eq_true rfl) d_Model_answer_6 ⟨(Nat.le_of_ble_eq_true rfl), (Nat.le_of_ble_eq_true rfl)⟩ (fun r hz => ?_)
  rcases hz with ⟨z2, rfl⟩ | ⟨z2, rfl⟩
  · skip
    obtain ⟨j, hj, hxj⟩ := ok20 z2.1 z2.2
    subst hxj
    refine lv_if_eq (tgt := 20) hx hb d_Model_answer_9 (by decide) (fun c3 => ?_) (fun c3 => ?_)
    · exact absurd c3 (by decide)
    · skip
      refine lv_aload_n hx hb d_Model_answer_12 rfl (lv_at hl 0 rfl) ?_
      refine lv_iload_n hx hb d_Model_answer_13 rfl (lv_at hl 2 rfl) ?_
      refine wd_cvi (As := [.int y]) (rest := []) X hK hw (c_Model_isPicture b AD 0 mo n nw lt du g hm y) (cw_Model_105 hts rfl rfl ⟨(Nat.le_of_ble_eq_true rfl), (Nat.le_of_ble_eq_true rfl)⟩) hm.1 rfl rfl rfl hl.1 rfl (Nat.le_of_ble_eq_true rfl) d_Model_answer_14 ⟨(Nat.le_of_ble_eq_true rfl), (Nat.le_of_ble_eq_true rfl)⟩ (fun r hz => ?_)
      rcases hz with ⟨z4, rfl⟩ | ⟨z4, rfl⟩
      · skip
        obtain ⟨i, hi, hxi⟩ := okN_of hm.2.2.2.2 z4.1 z4.2
        subst hxi
        refine lv_if_ne (tgt := 23) hx hb d_Model_answer_17 (by decide) (fun c5 => ?_) (fun c5 => ?_)
        · skip
          refine lv_iload_n hx hb d_Model_answer_23 rfl (lv_at hl 3 rfl) ?_
          refine lv_i2l hx hb d_Model_answer_24 rfl ?_
          refine lv_lconst (v := 0) hx hb d_Model_answer_25 (by decide) ?_
          refine lv_ldc2 (v := 9999) hx hb hown (hts _ k_Model_108) d_Model_answer_26 ?_
          refine wd_csi (As := [.long ((en).toInt64), .long 0, .long 9999]) (rest := []) X hK hw (c_Model_isIn en.toInt64 0 9999) (cw_Model_58 hts rfl rfl ⟨(Nat.le_of_ble_eq_true rfl), (Nat.le_of_ble_eq_true rfl)⟩) rfl hl.1 rfl (Nat.le_of_ble_eq_true rfl) d_Model_answer_29 ⟨(Nat.le_of_ble_eq_true rfl), (Nat.le_of_ble_eq_true rfl)⟩ (fun r hz => ?_)
          rcases hz with ⟨z6, rfl⟩ | ⟨z6, rfl⟩
          · skip
            rw [wi9_iff] at z6
            refine lv_if_eq (tgt := 44) hx hb d_Model_answer_32 (by decide) (fun c7 => ?_) (fun c7 => ?_)
            · exact absurd c7 (by decide)
            · skip
              refine lv_aload_n hx hb d_Model_answer_35 rfl (lv_at hl 0 rfl) ?_
              refine lv_lload hx hb d_Model_answer_36 (lv_at hl 4 rfl) ?_
              refine wd_cvi (As := [.long t]) (rest := []) X hK hw (c_Model_isTime b AD 0 mo n nw lt du g hm t) (cw_Model_70 hts rfl rfl ⟨(Nat.le_of_ble_eq_true rfl), (Nat.le_of_ble_eq_true rfl)⟩) hm.1 rfl rfl rfl hl.1 rfl (Nat.le_of_ble_eq_true rfl) d_Model_answer_38 ⟨(Nat.le_of_ble_eq_true rfl), (Nat.le_of_ble_eq_true rfl)⟩ (fun r hz => ?_)
              rcases hz with ⟨z8, rfl⟩ | ⟨z8, rfl⟩
              · skip
                refine lv_if_ne (tgt := 47) hx hb d_Model_answer_41 (by decide) (fun c9 => ?_) (fun c9 => ?_)
                · skip
                  refine lv_aload_n hx hb d_Model_answer_47 rfl (lv_at hl 0 rfl) ?_
                  refine lv_iload_n hx hb d_Model_answer_48 rfl (lv_at hl 1 rfl) ?_
                  refine wd_cvi (As := [.int (nI j)]) (rest := []) X hK hw (c_Model_held b AD 0 mo n nw lt du g hm j hj) (cw_Model_93 hts rfl rfl ⟨(Nat.le_of_ble_eq_true rfl), (Nat.le_of_ble_eq_true rfl)⟩) hm.1 rfl rfl rfl hl.1 rfl (Nat.le_of_ble_eq_true rfl) d_Model_answer_49 ⟨(Nat.le_of_ble_eq_true rfl), (Nat.le_of_ble_eq_true rfl)⟩ (fun r hz => ?_)
                  subst hz
                  refine lv_iload_n hx hb d_Model_answer_52 rfl (lv_at hl 2 rfl) ?_
                  refine lv_icmp_eq (tgt := 59) hx hb d_Model_answer_53 (by decide) (fun c10 => ?_) (fun c10 => ?_)
                  · skip
                    refine lv_aload_n hx hb d_Model_answer_59 rfl (lv_at hl 0 rfl) ?_
                    refine lv_lload hx hb d_Model_answer_60 (lv_at hl 4 rfl) ?_
                    refine wd_mvv (As := [.long t]) (rest := []) X hK hw (c_Model_pass b AD 0 mo n nw lt du g hm t) (cw_Model_97 hts rfl rfl ⟨(Nat.le_of_ble_eq_true rfl), (Nat.le_of_ble_eq_true rfl)⟩) hm.1 rfl rfl rfl hl.1 rfl (Nat.le_of_ble_eq_true rfl) d_Model_answer_62 ⟨(Nat.le_of_ble_eq_true rfl), (Nat.le_of_ble_eq_true rfl)⟩ (fun f11 H locs hm hw => ?_)
                    refine lv_aload_n hx hb d_Model_answer_65 rfl (lv_at hl 0 rfl) ?_
                    refine fg_Model_29 X hK hw hm.1 d_Model_answer_66 ?_
                    refine lv_bipush (v := 20) hx hb d_Model_answer_69 (by decide) ?_
                    refine lv_iload_n hx hb d_Model_answer_71 rfl (lv_at hl 2 rfl) ?_
                    refine lv_imul hx hb d_Model_answer_72 ?_
                    refine lv_iload_n hx hb d_Model_answer_73 rfl (lv_at hl 1 rfl) ?_
                    refine lv_iadd hx hb d_Model_answer_74 ?_
                    refine lv_bipush (v := 20) hx hb d_Model_answer_75 (by decide) ?_
                    refine lv_isub hx hb d_Model_answer_77 ?_
                    refine lv_iconst (v := 3) hx hb d_Model_answer_78 (by decide) ?_
                    rw [ix20 i j]
                    refine m_st X hK hw hm (k := 6) (j := 20 * i + j) (by decide) (by decide) rfl (by show 20 * i + j < 6020; omega) d_Model_answer_79 (fun f12 H locs hm hw => ?_)
                    refine lv_aload_n hx hb d_Model_answer_80 rfl (lv_at hl 0 rfl) ?_
                    refine fg_Model_35 X hK hw hm.1 d_Model_answer_81 ?_
                    refine lv_bipush (v := 20) hx hb d_Model_answer_84 (by decide) ?_
                    refine lv_iload_n hx hb d_Model_answer_86 rfl (lv_at hl 2 rfl) ?_
                    refine lv_imul hx hb d_Model_answer_87 ?_
                    refine lv_iload_n hx hb d_Model_answer_88 rfl (lv_at hl 1 rfl) ?_
                    refine lv_iadd hx hb d_Model_answer_89 ?_
                    refine lv_bipush (v := 20) hx hb d_Model_answer_90 (by decide) ?_
                    refine lv_isub hx hb d_Model_answer_92 ?_
                    refine lv_iload_n hx hb d_Model_answer_93 rfl (lv_at hl 3 rfl) ?_
                    rw [ix20 i j]
                    refine m_st X hK hw hm (k := 8) (j := 20 * i + j) (by decide) (by decide) rfl (by show 20 * i + j < 6020; omega) d_Model_answer_94 (fun f13 H locs hm hw => ?_)
                    refine lv_aload_n hx hb d_Model_answer_95 rfl (lv_at hl 0 rfl) ?_
                    refine fg_Model_17 X hK hw hm.1 d_Model_answer_96 ?_
                    refine lv_iload_n hx hb d_Model_answer_99 rfl (lv_at hl 2 rfl) ?_
                    refine m_ld X hK hw hm (k := 2) (j := i + 1) (by decide) (by decide) rfl (by show i + 1 < 301; omega) d_Model_answer_100 ?_
                    refine lv_if_ne (tgt := 110) hx hb d_Model_answer_101 (by decide) (fun c14 => ?_) (fun c14 => ?_)
                    · skip
                      refine lv_aload_n hx hb d_Model_answer_110 rfl (lv_at hl 0 rfl) ?_
                      refine lv_iload_n hx hb d_Model_answer_111 rfl (lv_at hl 2 rfl) ?_
                      refine wd_cvi (As := [.int (nI (i + 1))]) (rest := []) X hK hw (c_Model_stateOf b AD 0 mo n t (lt + nI (mC t du (g 2) n)) du (va_up (va_up (va_up g 2 (mE t du (g 2) n)) 6 (upd ((va_up g 2 (mE t du (g 2) n)) 6) (20 * i + j) 3)) 8 (upd ((va_up (va_up g 2 (mE t du (g 2) n)) 6 (upd ((va_up g 2 (mE t du (g 2) n)) 6) (20 * i + j) 3)) 8) (20 * i + j) en)) hm i hi) (cw_Model_114 hts rfl rfl ⟨(Nat.le_of_ble_eq_true rfl), (Nat.le_of_ble_eq_true rfl)⟩) hm.1 rfl rfl rfl hl.1 rfl (Nat.le_of_ble_eq_true rfl) d_Model_answer_112 ⟨(Nat.le_of_ble_eq_true rfl), (Nat.le_of_ble_eq_true rfl)⟩ (fun r hz => ?_)
                      subst hz
                      exact ret _ _ _ _ _ _ d_Model_answer_115 hw (Or.inr ⟨j, i, hj, hi, rfl, rfl, Or.inr ⟨⟨z6, z8⟩, Or.inr ⟨c10, _, hm, rfl, Or.inl ⟨c14, rfl⟩⟩⟩⟩)
                    · skip
                      refine lv_aload_n hx hb d_Model_answer_104 rfl (lv_at hl 0 rfl) ?_
                      refine lv_iload_n hx hb d_Model_answer_105 rfl (lv_at hl 2 rfl) ?_
                      refine lv_iload_n hx hb d_Model_answer_106 rfl (lv_at hl 3 rfl) ?_
                      obtain ⟨k, hk2, hk4⟩ := hA i hi (mE_z (by simpa [va_up] using c14))
                      have hk4x : (va_up (va_up (va_up g 2 (mE t du (g 2) n)) 6 (upd ((va_up g 2 (mE t du (g 2) n)) 6) (20 * i + j) 3)) 8 (upd ((va_up (va_up g 2 (mE t du (g 2) n)) 6 (upd ((va_up g 2 (mE t du (g 2) n)) 6) (20 * i + j) 3)) 8) (20 * i + j) en)) 4 (i + 1) = nI k := by simpa [va_up] using hk4
                      refine wd_mvv (As := [.int (nI (i + 1)), .int en]) (rest := []) X hK hw (c_Model_take b AD 0 mo n t (lt + nI (mC t du (g 2) n)) du (va_up (va_up (va_up g 2 (mE t du (g 2) n)) 6 (upd ((va_up g 2 (mE t du (g 2) n)) 6) (20 * i + j) 3)) 8 (upd ((va_up (va_up g 2 (mE t du (g 2) n)) 6 (upd ((va_up g 2 (mE t du (g 2) n)) 6) (20 * i + j) 3)) 8) (20 * i + j) en)) hm i hi k hk4x hk2 en) (cw_Model_110 hts rfl rfl ⟨(Nat.le_of_ble_eq_true rfl), (Nat.le_of_ble_eq_true rfl)⟩) hm.1 rfl rfl rfl hl.1 rfl (Nat.le_of_ble_eq_true rfl) d_Model_answer_107 ⟨(Nat.le_of_ble_eq_true rfl), (Nat.le_of_ble_eq_true rfl)⟩ (fun f15 H locs hz hw => ?_)
                      rcases hz with ⟨hb0, hm⟩ | ⟨hb0, hb2, hm⟩ | ⟨hb0, hb2, hm⟩
                      · skip
                        refine lv_aload_n hx hb d_Model_answer_110 rfl (lv_at hl 0 rfl) ?_
                        refine lv_iload_n hx hb d_Model_answer_111 rfl (lv_at hl 2 rfl) ?_
                        refine wd_cvi (As := [.int (nI (i + 1))]) (rest := []) X hK hw (c_Model_stateOf b AD 0 mo n t (lt + nI (mC t du (g 2) n)) du (tB (va_up (va_up (va_up g 2 (mE t du (g 2) n)) 6 (upd ((va_up g 2 (mE t du (g 2) n)) 6) (20 * i + j) 3)) 8 (upd ((va_up (va_up g 2 (mE t du (g 2) n)) 6 (upd ((va_up g 2 (mE t du (g 2) n)) 6) (20 * i + j) 3)) 8) (20 * i + j) en)) i k en) hm i hi) (cw_Model_114 hts rfl rfl ⟨(Nat.le_of_ble_eq_true rfl), (Nat.le_of_ble_eq_true rfl)⟩) hm.1 rfl rfl rfl hl.1 rfl (Nat.le_of_ble_eq_true rfl) d_Model_answer_112 ⟨(Nat.le_of_ble_eq_true rfl), (Nat.le_of_ble_eq_true rfl)⟩ (fun r hz => ?_)
                        subst hz
                        exact ret _ _ _ _ _ _ d_Model_answer_115 hw (Or.inr ⟨j, i, hj, hi, rfl, rfl, Or.inr ⟨⟨z6, z8⟩, Or.inr ⟨c10, _, hm, rfl, Or.inr ⟨c14, k, hk2, hk4, Or.inl ⟨hb0, rfl⟩⟩⟩⟩⟩)
                      · skip
                        refine lv_aload_n hx hb d_Model_answer_110 rfl (lv_at hl 0 rfl) ?_
                        refine lv_iload_n hx hb d_Model_answer_111 rfl (lv_at hl 2 rfl) ?_
                        refine wd_cvi (As := [.int (nI (i + 1))]) (rest := []) X hK hw (c_Model_stateOf b AD 0 mo n t (lt + nI (mC t du (g 2) n)) du (tC (va_up (va_up (va_up g 2 (mE t du (g 2) n)) 6 (upd ((va_up g 2 (mE t du (g 2) n)) 6) (20 * i + j) 3)) 8 (upd ((va_up (va_up g 2 (mE t du (g 2) n)) 6 (upd ((va_up g 2 (mE t du (g 2) n)) 6) (20 * i + j) 3)) 8) (20 * i + j) en)) i k en) hm i hi) (cw_Model_114 hts rfl rfl ⟨(Nat.le_of_ble_eq_true rfl), (Nat.le_of_ble_eq_true rfl)⟩) hm.1 rfl rfl rfl hl.1 rfl (Nat.le_of_ble_eq_true rfl) d_Model_answer_112 ⟨(Nat.le_of_ble_eq_true rfl), (Nat.le_of_ble_eq_true rfl)⟩ (fun r hz => ?_)
                        subst hz
                        exact ret _ _ _ _ _ _ d_Model_answer_115 hw (Or.inr ⟨j, i, hj, hi, rfl, rfl, Or.inr ⟨⟨z6, z8⟩, Or.inr ⟨c10, _, hm, rfl, Or.inr ⟨c14, k, hk2, hk4, Or.inr (Or.inl ⟨hb0, hb2, rfl⟩)⟩⟩⟩⟩)
                      · skip
                        refine lv_aload_n hx hb d_Model_answer_110 rfl (lv_at hl 0 rfl) ?_
                        refine lv_iload_n hx hb d_Model_answer_111 rfl (lv_at hl 2 rfl) ?_
                        refine wd_cvi (As := [.int (nI (i + 1))]) (rest := []) X hK hw (c_Model_stateOf b AD 0 mo n t (lt + nI (mC t du (g 2) n)) du (tA (va_up (va_up (va_up g 2 (mE t du (g 2) n)) 6 (upd ((va_up g 2 (mE t du (g 2) n)) 6) (20 * i + j) 3)) 8 (upd ((va_up (va_up g 2 (mE t du (g 2) n)) 6 (upd ((va_up g 2 (mE t du (g 2) n)) 6) (20 * i + j) 3)) 8) (20 * i + j) en)) i k en) hm i hi) (cw_Model_114 hts rfl rfl ⟨(Nat.le_of_ble_eq_true rfl), (Nat.le_of_ble_eq_true rfl)⟩) hm.1 rfl rfl rfl hl.1 rfl (Nat.le_of_ble_eq_true rfl) d_Model_answer_112 ⟨(Nat.le_of_ble_eq_true rfl), (Nat.le_of_ble_eq_true rfl)⟩ (fun r hz => ?_)
                        subst hz
                        exact ret _ _ _ _ _ _ d_Model_answer_115 hw (Or.inr ⟨j, i, hj, hi, rfl, rfl, Or.inr ⟨⟨z6, z8⟩, Or.inr ⟨c10, _, hm, rfl, Or.inr ⟨c14, k, hk2, hk4, Or.inr (Or.inr ⟨hb0, hb2, rfl⟩)⟩⟩⟩⟩)
                  · skip
                    refine lv_bipush (v := (-103)) hx hb d_Model_answer_56 (by decide) ?_
                    exact ret _ _ _ _ _ _ d_Model_answer_58 hw (Or.inr ⟨j, i, hj, hi, rfl, rfl, Or.inr ⟨⟨z6, z8⟩, Or.inl ⟨c10, rfl, hm⟩⟩⟩)
                · exact absurd c9 (by decide)
              · skip
                refine lv_if_ne (tgt := 47) hx hb d_Model_answer_41 (by decide) (fun c16 => ?_) (fun c16 => ?_)
                · exact absurd c16 (by decide)
                · skip
                  refine lv_bipush (v := (-102)) hx hb d_Model_answer_44 (by decide) ?_
                  exact ret _ _ _ _ _ _ d_Model_answer_46 hw (Or.inr ⟨j, i, hj, hi, rfl, rfl, Or.inl ⟨(fun q => z8 q.2), rfl, hm⟩⟩)
          · skip
            rw [wi9_iff] at z6
            refine lv_if_eq (tgt := 44) hx hb d_Model_answer_32 (by decide) (fun c17 => ?_) (fun c17 => ?_)
            · skip
              refine lv_bipush (v := (-102)) hx hb d_Model_answer_44 (by decide) ?_
              exact ret _ _ _ _ _ _ d_Model_answer_46 hw (Or.inr ⟨j, i, hj, hi, rfl, rfl, Or.inl ⟨(fun q => z6 q.1), rfl, hm⟩⟩)
            · exact absurd c17 (by decide)
        · exact absurd c5 (by decide)
      · skip
        refine lv_if_ne (tgt := 23) hx hb d_Model_answer_17 (by decide) (fun c18 => ?_) (fun c18 => ?_)
        · exact absurd c18 (by decide)
        · skip
          refine lv_bipush (v := (-101)) hx hb d_Model_answer_20 (by decide) ?_
          exact ret _ _ _ _ _ _ d_Model_answer_22 hw (Or.inl ⟨Or.inr z4, rfl, hm⟩)
  · skip
    refine lv_if_eq (tgt := 20) hx hb d_Model_answer_9 (by decide) (fun c19 => ?_) (fun c19 => ?_)
    · skip
      refine lv_bipush (v := (-101)) hx hb d_Model_answer_20 (by decide) ?_
      exact ret _ _ _ _ _ _ d_Model_answer_22 hw (Or.inl ⟨Or.inl z2, rfl, hm⟩)
    · exact absurd c19 (by decide)

