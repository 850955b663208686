abbrev rm_ClerkRows_picture : Room := { frames := 2, cells := 1, slots := 8, locals := 45 }
set_option maxHeartbeats 4000000 in
set_option maxRecDepth 100000 in
theorem c_ClerkRows_picture {l : Launch} {D : va_G} {ca : Nat → ClassId} {f : wd_M} {sz : Nat} (a : Nat) (mo : Int32) (pa ka : Nat) (n : Nat) (nw : Int64) (lt : Int32) (ha : f a = some (eR mo pa ka (nI n) nw lt)) (gp : Nat → Option Nat) (hg : f pa = some (eA (ca 0) 300 gp)) (P : Nat → PT) (hr : rp f gp n P) (t : Int64) (sk : Int32) : Met l y_ClerkRows_picture (.code y_ClerkRows_picture b_ClerkRows_picture 4 (some .int) :: tb) rm_ClerkRows_picture (va_Pc [.ref a, .long t, .int sk] (wd_preZ D classes (ty ca) f sz)) (va_Qi (fun r f' => (¬ (isT nw t ∧ wi sk 3) ∧ r = -102 ∧ f' = f) ∨ ((isT nw t ∧ wi sk 3) ∧ ((¬ nI n < 300 ∧ r = -104 ∧ f' = f) ∨ (nI n < 300 ∧ ((¬ nI (cW P n) < mo ∧ r = 0 ∧ f' = f) ∨ (nI (cW P n) < mo ∧ ∃ q : Nat, f q = none ∧ r = nI (n + 1) ∧ f' = wd_up (wd_up (wd_up f q (eP (nI (n + 1)) t sk 2 0 0 0 none)) pa (eA (ca 0) 300 (va_up gp n (some q)))) a (eR mo pa ka (nI (n + 1)) nw lt))))))) (wd_B D classes f sz) (wd_A f sz)) 1 8 (wd_A f sz) := by
  refine wd_Qi (own := R_ClerkRows) (by decide) rfl (Nat.le_of_ble_eq_true rfl) ?_
  intro p e s m args below meth c Q X hK hw ret ls hl
  have hx := X.1
  have hb := X.2.1
  have hown := X.2.2.2.1
  have hts := X.2.2.2.2
  have hl : lv_has ls 4 [(0, .ref a), (1, .long t), (3, .int sk)] := hl
  refine lv_aload_n hx hb d_ClerkRows_picture_0 rfl (lv_at hl 0 rfl) ?_
  refine lv_lload_n hx hb d_ClerkRows_picture_1 rfl (lv_at hl 1 rfl) ?_
  refine wd_cvi (As := [.long t]) (rest := []) X hK hw (c_ClerkRows_isTime a mo pa ka (nI n) nw lt ha t) (cw_ClerkRows_47 hts rfl rfl ⟨(Nat.le_of_ble_eq_true rfl), (Nat.le_of_ble_eq_true rfl)⟩) ha rfl rfl rfl hl.1 rfl (Nat.le_of_ble_eq_true rfl) d_ClerkRows_picture_2 ⟨(Nat.le_of_ble_eq_true rfl), (Nat.le_of_ble_eq_true rfl)⟩ (fun r hz => ?_)
  rcases hz with ⟨z1, rfl⟩ | ⟨z1, rfl⟩
  · skip
    refine lv_if_eq (tgt := 16) hx hb d_ClerkRows_picture_5 (by decide) (fun c2 => ?_) (fun c2 => ?_)
    · exact absurd c2 (by decide)
    · skip
      refine lv_iload_n hx hb d_ClerkRows_picture_8 rfl (lv_at hl 2 rfl) ?_
      refine lv_iconst (v := 3) hx hb d_ClerkRows_picture_9 (by decide) ?_
      refine wd_csi (As := [.int sk, .int 3]) (rest := []) X hK hw (c_ClerkRows_isWithin sk 3) (cw_ClerkRows_51 hts rfl rfl ⟨(Nat.le_of_ble_eq_true rfl), (Nat.le_of_ble_eq_true rfl)⟩) rfl hl.1 rfl (Nat.le_of_ble_eq_true rfl) d_ClerkRows_picture_10 ⟨(Nat.le_of_ble_eq_true rfl), (Nat.le_of_ble_eq_true rfl)⟩ (fun r hz => ?_)
      rcases hz with ⟨z3, rfl⟩ | ⟨z3, rfl⟩
      · skip
        refine lv_if_ne (tgt := 19) hx hb d_ClerkRows_picture_13 (by decide) (fun c4 => ?_) (fun c4 => ?_)
        · skip
          refine lv_aload_n hx hb d_ClerkRows_picture_19 rfl (lv_at hl 0 rfl) ?_
          refine fg_ClerkRows_21 X hK hw ha d_ClerkRows_picture_20 ?_
          refine lv_sipush (v := 300) hx hb d_ClerkRows_picture_23 (by decide) ?_
          refine lv_icmp_lt (tgt := 32) hx hb d_ClerkRows_picture_26 (by decide) (fun c5 => ?_) (fun c5 => ?_)
          · skip
            refine lv_aload_n hx hb d_ClerkRows_picture_32 rfl (lv_at hl 0 rfl) ?_
            refine wd_cvi (As := []) (rest := []) X hK hw (c_ClerkRows_waiting a mo pa ka (nI n) nw lt ha gp hg n P hr) (cw_ClerkRows_55 hts rfl rfl ⟨(Nat.le_of_ble_eq_true rfl), (Nat.le_of_ble_eq_true rfl)⟩) ha rfl rfl rfl hl.1 rfl (Nat.le_of_ble_eq_true rfl) d_ClerkRows_picture_33 ⟨(Nat.le_of_ble_eq_true rfl), (Nat.le_of_ble_eq_true rfl)⟩ (fun r hz => ?_)
            subst hz
            refine lv_aload_n hx hb d_ClerkRows_picture_36 rfl (lv_at hl 0 rfl) ?_
            refine fg_ClerkRows_41 X hK hw ha d_ClerkRows_picture_37 ?_
            refine lv_icmp_lt (tgt := 45) hx hb d_ClerkRows_picture_40 (by decide) (fun c6 => ?_) (fun c6 => ?_)
            · skip
              refine lv_aload_n hx hb d_ClerkRows_picture_45 rfl (lv_at hl 0 rfl) ?_
              refine fg_ClerkRows_11 X hK hw ha d_ClerkRows_picture_46 ?_
              refine lv_aload_n hx hb d_ClerkRows_picture_49 rfl (lv_at hl 0 rfl) ?_
              refine fg_ClerkRows_21 X hK hw ha d_ClerkRows_picture_50 ?_
              refine nw_ClerkRows_9 X hK hw (Nat.le_of_ble_eq_true rfl) (Nat.le_of_ble_eq_true rfl) d_ClerkRows_picture_53 (fun q7 f8 H eq7 hq7 ef8 hw => ?_)
              have ha : f8 a = some (eR mo pa ka (nI n) nw lt) := by rw [ef8, wd_un (wd_neF ha hq7)]; exact ha
              have hg : f8 pa = some (eA (ca 0) 300 gp) := by rw [ef8, wd_un (wd_neF hg hq7)]; exact hg
              have h_q7 : f8 q7 = some (eP 0 0 0 0 0 0 0 none) := by rw [ef8]; exact wd_us
              refine lv_dup hx hb d_ClerkRows_picture_56 rfl ?_
              refine lv_aload_n hx hb d_ClerkRows_picture_57 rfl (lv_at hl 0 rfl) ?_
              refine fg_ClerkRows_21 X hK hw ha d_ClerkRows_picture_58 ?_
              refine lv_iconst (v := 1) hx hb d_ClerkRows_picture_61 (by decide) ?_
              refine lv_iadd hx hb d_ClerkRows_picture_62 ?_
              refine lv_lload_n hx hb d_ClerkRows_picture_63 rfl (lv_at hl 1 rfl) ?_
              refine lv_iload_n hx hb d_ClerkRows_picture_64 rfl (lv_at hl 2 rfl) ?_
              refine wd_mI (As := [.int ((nI n) + 1), .long t, .int sk]) (rest := [.ref q7, .int (nI n), .ref pa]) X hK hw (c_Picture_init q7 h_q7 ((nI n) + 1) t sk) (cw_ClerkRows_59 hts rfl rfl ⟨(Nat.le_of_ble_eq_true rfl), (Nat.le_of_ble_eq_true rfl)⟩) rfl hl.1 rfl (Nat.le_of_ble_eq_true rfl) d_ClerkRows_picture_65 ⟨(Nat.le_of_ble_eq_true rfl), (Nat.le_of_ble_eq_true rfl)⟩ (fun f9 H locs ef9 hw => ?_)
              have ha : f9 a = some (eR mo pa ka (nI n) nw lt) := by rw [ef9, wd_un (wd_ne ha h_q7 (by decide))]; exact ha
              have hg : f9 pa = some (eA (ca 0) 300 gp) := by rw [ef9, wd_un (Ne.symm (wd_neA h_q7 hg))]; exact hg
              have h_q7 : f9 q7 = some (eP ((nI n) + 1) t sk 2 0 0 0 none) := by rw [ef9]; exact wd_us
              have hn3 : n < 300 := (nI_ltI (Nat.lt_of_le_of_lt hr.1 (by decide)) (by decide)).mp c5
              refine wd_astS X hK hw hg 0 (r := (R_Picture, F_Picture, 8)) rfl h_q7 rfl hn3 (by decide) d_ClerkRows_picture_68 (fun f10 H locs ef10 hw => ?_)
              have ha : f10 a = some (eR mo pa ka (nI n) nw lt) := by rw [ef10, wd_un (wd_neA ha hg)]; exact ha
              have h_q7 : f10 q7 = some (eP ((nI n) + 1) t sk 2 0 0 0 none) := by rw [ef10, wd_un (wd_neA h_q7 hg)]; exact h_q7
              have hg : f10 pa = some (eA (ca 0) 300 (va_up gp n (some q7))) := by rw [ef10]; exact wd_us
              refine lv_aload_n hx hb d_ClerkRows_picture_69 rfl (lv_at hl 0 rfl) ?_
              refine lv_dup hx hb d_ClerkRows_picture_70 rfl ?_
              refine fg_ClerkRows_21 X hK hw ha d_ClerkRows_picture_71 ?_
              refine lv_iconst (v := 1) hx hb d_ClerkRows_picture_74 (by decide) ?_
              refine lv_iadd hx hb d_ClerkRows_picture_75 ?_
              refine fp_ClerkRows_21 X hK hw ha rfl rfl d_ClerkRows_picture_76 (fun f11 H locs ef11 hw => ?_)
              have hg : f11 pa = some (eA (ca 0) 300 (va_up gp n (some q7))) := by rw [ef11, wd_un (Ne.symm (wd_neA ha hg))]; exact hg
              have h_q7 : f11 q7 = some (eP ((nI n) + 1) t sk 2 0 0 0 none) := by rw [ef11, wd_un (wd_ne h_q7 ha (by decide))]; exact h_q7
              have ha : f11 a = some (eR mo pa ka ((nI n) + 1) nw lt) := by rw [ef11]; exact wd_us
              refine lv_aload_n hx hb d_ClerkRows_picture_79 rfl (lv_at hl 0 rfl) ?_
              refine fg_ClerkRows_21 X hK hw ha d_ClerkRows_picture_80 ?_
              exact ret _ _ _ _ _ _ d_ClerkRows_picture_83 hw (Or.inr ⟨⟨z1, z3⟩, Or.inr ⟨c5, Or.inr ⟨c6, q7, hq7, nI_succ n ▸ rfl, by rw [ef11, ef10, ef9, ef8, nI_succ n]; (try simp only [wd_uu]); try rfl⟩⟩⟩)
            · skip
              refine lv_iconst (v := 0) hx hb d_ClerkRows_picture_43 (by decide) ?_
              refine W.widen (k := 1) (n := 8) (Nat.le_of_ble_eq_true rfl) (Nat.le_of_ble_eq_true rfl) ?_
              exact ret _ _ _ _ _ _ d_ClerkRows_picture_44 hw (Or.inr ⟨⟨z1, z3⟩, Or.inr ⟨c5, Or.inl ⟨c6, rfl, rfl⟩⟩⟩)
          · skip
            refine lv_bipush (v := (-104)) hx hb d_ClerkRows_picture_29 (by decide) ?_
            refine W.widen (k := 1) (n := 8) (Nat.le_of_ble_eq_true rfl) (Nat.le_of_ble_eq_true rfl) ?_
            exact ret _ _ _ _ _ _ d_ClerkRows_picture_31 hw (Or.inr ⟨⟨z1, z3⟩, Or.inl ⟨c5, rfl, rfl⟩⟩)
        · exact absurd c4 (by decide)
      · skip
        refine lv_if_ne (tgt := 19) hx hb d_ClerkRows_picture_13 (by decide) (fun c12 => ?_) (fun c12 => ?_)
        · exact absurd c12 (by decide)
        · skip
          refine lv_bipush (v := (-102)) hx hb d_ClerkRows_picture_16 (by decide) ?_
          refine W.widen (k := 1) (n := 8) (Nat.le_of_ble_eq_true rfl) (Nat.le_of_ble_eq_true rfl) ?_
          exact ret _ _ _ _ _ _ d_ClerkRows_picture_18 hw (Or.inl ⟨(fun q => z3 q.2), rfl, rfl⟩)
  · skip
    refine lv_if_eq (tgt := 16) hx hb d_ClerkRows_picture_5 (by decide) (fun c13 => ?_) (fun c13 => ?_)
    · skip
      refine lv_bipush (v := (-102)) hx hb d_ClerkRows_picture_16 (by decide) ?_
      refine W.widen (k := 1) (n := 8) (Nat.le_of_ble_eq_true rfl) (Nat.le_of_ble_eq_true rfl) ?_
      exact ret _ _ _ _ _ _ d_ClerkRows_picture_18 hw (Or.inl ⟨(fun q => z1 q.1), rfl, rfl⟩)
    · exact absurd c13 (by decide)

abbrev rm_ClerkRows_give : Room := { frames := 3, cells := 1, slots := 5, locals := 70 }
set_option maxHeartbeats 4000000 in
set_option maxRecDepth 100000 in
theorem c_ClerkRows_give {l : Launch} {D : va_G} {ca : Nat → ClassId} {f : wd_M} {sz : Nat} (a : Nat) (mo : Int32) (pa ka : Nat) (md : Int32) (nw : Int64) (lt : Int32) (ha : f a = some (eR mo pa ka md nw lt)) (gp : Nat → Option Nat) (hg : f pa = some (eA (ca 0) 300 gp)) (n : Nat) (P : Nat → PT) (hr : rp f gp n P) (gk : Nat → Option Nat) (K : Nat → KT) (hgk : f ka = some (eA (ca 1) 20 gk)) (hrk : rk f gk K) (x : Int32) (t : Int64) : Met l y_ClerkRows_give (.code y_ClerkRows_give b_ClerkRows_give 6 (some .int) :: tb) rm_ClerkRows_give (va_Pc [.ref a, .int x, .long t] (wd_preZ D classes (ty ca) f sz)) (va_Qi (fun r f' => ((∀ j : Nat, j < 20 → x ≠ nI j) ∧ r = -101 ∧ f' = f) ∨ ∃ j : Nat, j < 20 ∧ x = nI j ∧ ((¬ isT nw t ∧ r = -102 ∧ f' = f) ∨ (isT nw t ∧ (((kIn (K j) = 0 ∨ kTu (K j) ≠ none) ∧ r = -103 ∧ f' = f) ∨ ((¬ kIn (K j) = 0 ∧ kTu (K j) = none) ∧ ∃ f1 : wd_M, f1 a = some (eR mo pa ka md t (lt + nI (cL t P n))) ∧ f1 pa = some (eA (ca 0) 300 gp) ∧ rp f1 gp n (pst t P n) ∧ (∀ q : Nat, q ≠ a → (∀ j : Nat, j < n → q ≠ pAd (P j)) → f1 q = f q) ∧ ((gvn (pst t P n) (nI j) (kOf (K j)) (kSk (K j)) n = none ∧ r = 0 ∧ f' = f1) ∨ ∃ (b q : Nat) (la : Option Nat), gvn (pst t P n) (nI j) (kOf (K j)) (kSk (K j)) n = some b ∧ b < n ∧ f1 q = none ∧ f1 (pAd (pst t P n b)) = some (eQ (nI (b + 1)) (pst t P n b) la) ∧ r = nI (b + 1) ∧ f' = wd_up (wd_up (wd_up f1 q (eT (nI (b + 1)) (nI j) (kOf (K j)) la (-1))) (pAd (pst t P n b)) (eP (nI (b + 1)) (pDu (pst t P n b)) (pSk (pst t P n b)) (pWa (pst t P n b)) (pAn (pst t P n b)) (pEn (pst t P n b)) (pSw (pst t P n b)) (some q))) (kAd (K j)) (eK (nI j) (kIn (K j)) (kOf (K j)) (kSk (K j)) (some q)))))))) (wd_B D classes f sz) (wd_A f sz)) 1 5 (wd_A f sz) := by
  refine wd_Qi (own := R_ClerkRows) (by decide) rfl (Nat.le_of_ble_eq_true rfl) ?_
  intro p e s m args below meth c Q X hK hw ret ls hl
  have hx := X.1
  have hb := X.2.1
  have hown := X.2.2.2.1
  have hts := X.2.2.2.2
  have hl : lv_has ls 6 [(0, .ref a), (1, .int x), (2, .long t)] := hl
  refine lv_aload_n hx hb d_ClerkRows_give_0 rfl (lv_at hl 0 rfl) ?_
  refine lv_iload_n hx hb d_ClerkRows_give_1 rfl (lv_at hl 1 rfl) ?_
  refine wd_cvq (As := [.int x]) (rest := []) X hK hw (c_ClerkRows_findClerk a mo pa ka md nw lt ha gk hgk x) (cw_ClerkRows_62 hts rfl rfl ⟨(Nat.le_of_ble_eq_true rfl), (Nat.le_of_ble_eq_true rfl)⟩) ha rfl rfl rfl hl.1 rfl (Nat.le_of_ble_eq_true rfl) d_ClerkRows_give_2 ⟨(Nat.le_of_ble_eq_true rfl), (Nat.le_of_ble_eq_true rfl)⟩ (fun r hz => ?_)
  rcases hz with ⟨j, hj, hxj, hz⟩ | ⟨nxj, hz⟩
  · skip
    rw [(hrk j hj).1] at hz
    subst hz
    have hkj : f (kAd (K j)) = some (eJ (nI j) (K j)) := (hrk j hj).2
    refine lv_astore (lv' := [(4, .ref (kAd (K j))), (0, .ref a), (1, .int x), (2, .long t)]) hx hb d_ClerkRows_give_5 hl (by decide) rfl (fun ls hl => ?_)
    refine lv_aload hx hb d_ClerkRows_give_7 (lv_at hl 0 rfl) ?_
    refine lv_ifnonnull (tgt := 15) hx hb d_ClerkRows_give_9 (by decide) ?_
    refine lv_aload_n hx hb d_ClerkRows_give_15 rfl (lv_at hl 1 rfl) ?_
    refine lv_lload_n hx hb d_ClerkRows_give_16 rfl (lv_at hl 3 rfl) ?_
    refine wd_cvi (As := [.long t]) (rest := []) X hK hw (c_ClerkRows_isTime a mo pa ka md nw lt ha t) (cw_ClerkRows_47 hts rfl rfl ⟨(Nat.le_of_ble_eq_true rfl), (Nat.le_of_ble_eq_true rfl)⟩) ha rfl rfl rfl hl.1 rfl (Nat.le_of_ble_eq_true rfl) d_ClerkRows_give_17 ⟨(Nat.le_of_ble_eq_true rfl), (Nat.le_of_ble_eq_true rfl)⟩ (fun r hz => ?_)
    rcases hz with ⟨z1, rfl⟩ | ⟨z1, rfl⟩
    · skip
      refine lv_if_ne (tgt := 26) hx hb d_ClerkRows_give_20 (by decide) (fun c2 => ?_) (fun c2 => ?_)
      · skip
        rcases htu : kTu (K j) with _ | tq
        · skip
          have hkj : f (kAd (K j)) = some (eK (nI j) (kIn (K j)) (kOf (K j)) (kSk (K j)) none) := by rw [← htu]; exact hkj
          refine lv_aload hx hb d_ClerkRows_give_26 (lv_at hl 0 rfl) ?_
          refine fg_ClerkRows_66 X hK hw hkj d_ClerkRows_give_28 ?_
          refine lv_if_eq (tgt := 42) hx hb d_ClerkRows_give_31 (by decide) (fun c3 => ?_) (fun c3 => ?_)
          · skip
            refine lv_bipush (v := (-103)) hx hb d_ClerkRows_give_42 (by decide) ?_
            refine W.widen (k := 1) (n := 5) (Nat.le_of_ble_eq_true rfl) (Nat.le_of_ble_eq_true rfl) ?_
            exact ret _ _ _ _ _ _ d_ClerkRows_give_44 hw (Or.inr ⟨j, hj, hxj, Or.inr ⟨z1, Or.inl ⟨Or.inl c3, rfl, rfl⟩⟩⟩)
          · skip
            refine lv_aload hx hb d_ClerkRows_give_34 (lv_at hl 0 rfl) ?_
            refine fg_ClerkRows_70 X hK hw hkj d_ClerkRows_give_36 ?_
            refine lv_ifnullN (tgt := 45) hx hb d_ClerkRows_give_39 (by decide) ?_
            refine lv_aload_n hx hb d_ClerkRows_give_45 rfl (lv_at hl 1 rfl) ?_
            refine lv_lload_n hx hb d_ClerkRows_give_46 rfl (lv_at hl 3 rfl) ?_
            refine wd_mvv (As := [.long t]) (rest := []) X hK hw (c_ClerkRows_passTo a mo pa ka md nw lt ha gp hg n P hr t) (cw_ClerkRows_74 hts rfl rfl ⟨(Nat.le_of_ble_eq_true rfl), (Nat.le_of_ble_eq_true rfl)⟩) ha rfl rfl rfl hl.1 rfl (Nat.le_of_ble_eq_true rfl) d_ClerkRows_give_47 ⟨(Nat.le_of_ble_eq_true rfl), (Nat.le_of_ble_eq_true rfl)⟩ (fun f4 H locs hz hw => ?_)
            obtain ⟨ha1, hg1, hr1, hk1⟩ := hz
            have hgk1 : f4 ka = some (eA (ca 1) 20 gk) := ar_keep hgk ha hr hk1
            have hrk1 : rk f4 gk K := rk_keep hrk ha hr hk1
            have hkj1 : f4 (kAd (K j)) = some (eK (nI j) (kIn (K j)) (kOf (K j)) (kSk (K j)) none) := by rw [hk1 _ (wd_ne hkj ha (by decide)) (fun i hi => by obtain ⟨-, la, h2, -⟩ := hr.2.1 i hi; exact wd_ne hkj h2 (by decide))]; exact hkj
            refine lv_aload_n hx hb d_ClerkRows_give_50 rfl (lv_at hl 1 rfl) ?_
            refine lv_aload hx hb d_ClerkRows_give_51 (lv_at hl 0 rfl) ?_
            refine wd_cvq (As := [.ref (kAd (K j))]) (rest := []) X hK hw (c_ClerkRows_findGiven a mo pa ka md t (lt + nI (cL t P n)) ha1 gp hg1 n (pst t P n) hr1 (kAd (K j)) (nI j) (kIn (K j)) (kOf (K j)) (kSk (K j)) none hkj1) (cw_ClerkRows_78 hts rfl rfl ⟨(Nat.le_of_ble_eq_true rfl), (Nat.le_of_ble_eq_true rfl)⟩) ha1 rfl rfl rfl hl.1 rfl (Nat.le_of_ble_eq_true rfl) d_ClerkRows_give_53 ⟨(Nat.le_of_ble_eq_true rfl), (Nat.le_of_ble_eq_true rfl)⟩ (fun r hz => ?_)
            rcases hgv : gvn (pst t P n) (nI j) (kOf (K j)) (kSk (K j)) n with _ | b
            · skip
              rw [hgv] at hz
              have hz : r = none := hz
              subst hz
              refine lv_astoreN (lv' := [(5, .null), (4, .ref (kAd (K j))), (0, .ref a), (1, .int x), (2, .long t)]) hx hb d_ClerkRows_give_56 hl (by decide) rfl (fun ls hl => ?_)
              refine lv_aloadN hx hb d_ClerkRows_give_58 (lv_at hl 0 rfl) ?_
              refine lv_ifnonnullN hx hb d_ClerkRows_give_60 ?_
              refine lv_iconst (v := 0) hx hb d_ClerkRows_give_63 (by decide) ?_
              refine W.widen (k := 1) (n := 5) (Nat.le_of_ble_eq_true rfl) (Nat.le_of_ble_eq_true rfl) ?_
              exact ret _ _ _ _ _ _ d_ClerkRows_give_64 hw (Or.inr ⟨j, hj, hxj, Or.inr ⟨z1, Or.inr ⟨⟨c3, htu⟩, _, ha1, hg1, hr1, hk1, Or.inl ⟨hgv, rfl, rfl⟩⟩⟩⟩)
            · skip
              rw [hgv] at hz
              have hz : r = some (pAd (pst t P n b)) := hz
              subst hz
              have hbn := gvn_lt _ _ hgv
              obtain ⟨-, la, hpb, hcb⟩ := hr1.2.1 b hbn
              have hpb0 := hpb
              refine lv_astore (lv' := [(5, .ref (pAd (pst t P n b))), (4, .ref (kAd (K j))), (0, .ref a), (1, .int x), (2, .long t)]) hx hb d_ClerkRows_give_56 hl (by decide) rfl (fun ls hl => ?_)
              refine lv_aload hx hb d_ClerkRows_give_58 (lv_at hl 0 rfl) ?_
              refine lv_ifnonnull (tgt := 65) hx hb d_ClerkRows_give_60 (by decide) ?_
              refine lv_aload hx hb d_ClerkRows_give_65 (lv_at hl 1 rfl) ?_
              refine lv_aload hx hb d_ClerkRows_give_67 (lv_at hl 0 rfl) ?_
              refine lv_aload hx hb d_ClerkRows_give_69 (lv_at hl 1 rfl) ?_
              refine wd_mvq (As := [.ref (kAd (K j))]) (rest := [.ref (kAd (K j))]) X hK hw (c_Picture_addTurn (pAd (pst t P n b)) (nI (b + 1)) (pDu (pst t P n b)) (pSk (pst t P n b)) (pWa (pst t P n b)) (pAn (pst t P n b)) (pEn (pst t P n b)) (pSw (pst t P n b)) la hpb (kAd (K j)) (nI j) (kIn (K j)) (kOf (K j)) (kSk (K j)) none hkj1) (cw_ClerkRows_82 hts rfl rfl ⟨(Nat.le_of_ble_eq_true rfl), (Nat.le_of_ble_eq_true rfl)⟩) hpb rfl rfl rfl hl.1 rfl (Nat.le_of_ble_eq_true rfl) d_ClerkRows_give_71 ⟨(Nat.le_of_ble_eq_true rfl), (Nat.le_of_ble_eq_true rfl)⟩ (fun r f5 H locs hz hw => ?_)
              obtain ⟨q6, hz, hq6, ef5⟩ := hz
              subst hz
              have hkj1 : f5 (kAd (K j)) = some (eK (nI j) (kIn (K j)) (kOf (K j)) (kSk (K j)) none) := by rw [ef5, wd_un (wd_ne hkj1 hpb (by decide)), wd_un (wd_neF hkj1 hq6)]; exact hkj1
              have hpb : f5 (pAd (pst t P n b)) = some (eP (nI (b + 1)) (pDu (pst t P n b)) (pSk (pst t P n b)) (pWa (pst t P n b)) (pAn (pst t P n b)) (pEn (pst t P n b)) (pSw (pst t P n b)) (some q6)) := by rw [ef5]; exact wd_us
              refine fp_ClerkRows_70 X hK hw hkj1 rfl rfl d_ClerkRows_give_74 (fun f7 H locs ef7 hw => ?_)
              have hpb : f7 (pAd (pst t P n b)) = some (eP (nI (b + 1)) (pDu (pst t P n b)) (pSk (pst t P n b)) (pWa (pst t P n b)) (pAn (pst t P n b)) (pEn (pst t P n b)) (pSw (pst t P n b)) (some q6)) := by rw [ef7, wd_un (wd_ne hpb hkj1 (by decide))]; exact hpb
              have hkj1 : f7 (kAd (K j)) = some (eK (nI j) (kIn (K j)) (kOf (K j)) (kSk (K j)) (some q6)) := by rw [ef7]; exact wd_us
              refine lv_aload hx hb d_ClerkRows_give_77 (lv_at hl 0 rfl) ?_
              refine fg_ClerkRows_86 X hK hw hpb d_ClerkRows_give_79 ?_
              exact ret _ _ _ _ _ _ d_ClerkRows_give_82 hw (Or.inr ⟨j, hj, hxj, Or.inr ⟨z1, Or.inr ⟨⟨c3, htu⟩, _, ha1, hg1, hr1, hk1, Or.inr ⟨b, q6, la, hgv, hbn, hq6, hpb0, rfl, by rw [ef7, ef5]⟩⟩⟩⟩)
        · skip
          have hkj : f (kAd (K j)) = some (eK (nI j) (kIn (K j)) (kOf (K j)) (kSk (K j)) (some tq)) := by rw [← htu]; exact hkj
          refine lv_aload hx hb d_ClerkRows_give_26 (lv_at hl 0 rfl) ?_
          refine fg_ClerkRows_66 X hK hw hkj d_ClerkRows_give_28 ?_
          refine lv_if_eq (tgt := 42) hx hb d_ClerkRows_give_31 (by decide) (fun c8 => ?_) (fun c8 => ?_)
          · skip
            refine lv_bipush (v := (-103)) hx hb d_ClerkRows_give_42 (by decide) ?_
            refine W.widen (k := 1) (n := 5) (Nat.le_of_ble_eq_true rfl) (Nat.le_of_ble_eq_true rfl) ?_
            exact ret _ _ _ _ _ _ d_ClerkRows_give_44 hw (Or.inr ⟨j, hj, hxj, Or.inr ⟨z1, Or.inl ⟨Or.inl c8, rfl, rfl⟩⟩⟩)
          · skip
            refine lv_aload hx hb d_ClerkRows_give_34 (lv_at hl 0 rfl) ?_
            refine fg_ClerkRows_70 X hK hw hkj d_ClerkRows_give_36 ?_
            refine lv_ifnull hx hb d_ClerkRows_give_39 ?_
            refine lv_bipush (v := (-103)) hx hb d_ClerkRows_give_42 (by decide) ?_
            refine W.widen (k := 1) (n := 5) (Nat.le_of_ble_eq_true rfl) (Nat.le_of_ble_eq_true rfl) ?_
            exact ret _ _ _ _ _ _ d_ClerkRows_give_44 hw (Or.inr ⟨j, hj, hxj, Or.inr ⟨z1, Or.inl ⟨Or.inr (by rw [htu]; exact fun z => by cases z), rfl, rfl⟩⟩⟩)
      · exact absurd c2 (by decide)
    · skip
      refine lv_if_ne (tgt := 26) hx hb d_ClerkRows_give_20 (by decide) (fun c9 => ?_) (fun c9 => ?_)
      · exact absurd c9 (by decide)
      · skip
        refine lv_bipush (v := (-102)) hx hb d_ClerkRows_give_23 (by decide) ?_
        refine W.widen (k := 1) (n := 5) (Nat.le_of_ble_eq_true rfl) (Nat.le_of_ble_eq_true rfl) ?_
        exact ret _ _ _ _ _ _ d_ClerkRows_give_25 hw (Or.inr ⟨j, hj, hxj, Or.inl ⟨z1, rfl, rfl⟩⟩)
  · skip
    subst hz
    refine lv_astoreN (lv' := [(4, .null), (0, .ref a), (1, .int x), (2, .long t)]) hx hb d_ClerkRows_give_5 hl (by decide) rfl (fun ls hl => ?_)
    refine lv_aloadN hx hb d_ClerkRows_give_7 (lv_at hl 0 rfl) ?_
    refine lv_ifnonnullN hx hb d_ClerkRows_give_9 ?_
    refine lv_bipush (v := (-101)) hx hb d_ClerkRows_give_12 (by decide) ?_
    refine W.widen (k := 1) (n := 5) (Nat.le_of_ble_eq_true rfl) (Nat.le_of_ble_eq_true rfl) ?_
    exact ret _ _ _ _ _ _ d_ClerkRows_give_14 hw (Or.inl ⟨no_K nxj, rfl, rfl⟩)

abbrev rm_ClerkRows_answer : Room := { frames := 2, cells := 0, slots := 0, locals := 46 }
set_option maxHeartbeats 4000000 in
set_option maxRecDepth 100000 in
theorem c_ClerkRows_answer {l : Launch} {D : va_G} {ca : Nat → ClassId} {f : wd_M} {sz : Nat} (a : Nat) (mo : Int32) (pa ka : Nat) (md : Int32) (nw : Int64) (lt : Int32) (ha : f a = some (eR mo pa ka md nw lt)) (gp : Nat → Option Nat) (hg : f pa = some (eA (ca 0) 300 gp)) (n : Nat) (P : Nat → PT) (hr : rp f gp n P) (gk : Nat → Option Nat) (K : Nat → KT) (hgk : f ka = some (eA (ca 1) 20 gk)) (hrk : rk f gk K) (hT : ∀ j : Nat, j < 20 → ∀ q : Nat, kTu (K j) = some q → ∃ (pn ck to : Int32) (ea : Option Nat) (te : Int32), f q = some (eT pn ck to ea te)) (x y en : Int32) (t : Int64) : Met l y_ClerkRows_answer (.code y_ClerkRows_answer b_ClerkRows_answer 9 (some .int) :: tb) rm_ClerkRows_answer (va_Pc [.ref a, .int x, .int y, .int en, .long t] (wd_preZ D classes (ty ca) f sz)) (va_Qi (fun r f' => (((∀ j : Nat, j < 20 → x ≠ nI j) ∨ (∀ i : Nat, i < n → y ≠ nI (i + 1))) ∧ r = -101 ∧ f' = f) ∨ ∃ j i : Nat, j < 20 ∧ i < n ∧ x = nI j ∧ y = nI (i + 1) ∧ ((¬ (wi en 9999 ∧ isT nw t) ∧ r = -102 ∧ f' = f) ∨ ((wi en 9999 ∧ isT nw t) ∧ (((∀ (q : Nat) (ck to : Int32) (ea : Option Nat) (te : Int32), ¬ (kTu (K j) = some q ∧ f q = some (eT (nI (i + 1)) ck to ea te))) ∧ r = -103 ∧ f' = f) ∨ ∃ (q : Nat) (ck to : Int32) (ea : Option Nat) (te : Int32), kTu (K j) = some q ∧ f q = some (eT (nI (i + 1)) ck to ea te) ∧ ∃ f1 : wd_M, f1 a = some (eR mo pa ka md t (lt + nI (cL t P n))) ∧ f1 pa = some (eA (ca 0) 300 gp) ∧ rp f1 gp n (pst t P n) ∧ (∀ q : Nat, q ≠ a → (∀ j : Nat, j < n → q ≠ pAd (P j)) → f1 q = f q) ∧ ∃ la : Option Nat, f1 (pAd (pst t P n i)) = some (eQ (nI (i + 1)) (pst t P n i) la) ∧ r = stt (tE (pWa (pst t P n i)) (pAn (pst t P n i) + 1) (pEn (pst t P n i)) (pSw (pst t P n i)) en (hasE en (pL (pst t P n i)))).2.1 (tE (pWa (pst t P n i)) (pAn (pst t P n i) + 1) (pEn (pst t P n i)) (pSw (pst t P n i)) en (hasE en (pL (pst t P n i)))).1 (tk (sE q en (pL (pst t P n i)))) ∧ f' = wd_up (wd_up (wd_up f1 (kAd (K j)) (eK (nI j) (kIn (K j)) (kOf (K j)) (kSk (K j)) none)) q (eT (nI (i + 1)) ck to ea en)) (pAd (pst t P n i)) (eP (nI (i + 1)) (pDu (pst t P n i)) (pSk (pst t P n i)) (tE (pWa (pst t P n i)) (pAn (pst t P n i) + 1) (pEn (pst t P n i)) (pSw (pst t P n i)) en (hasE en (pL (pst t P n i)))).1 (pAn (pst t P n i) + 1) (tE (pWa (pst t P n i)) (pAn (pst t P n i) + 1) (pEn (pst t P n i)) (pSw (pst t P n i)) en (hasE en (pL (pst t P n i)))).2.1 (tE (pWa (pst t P n i)) (pAn (pst t P n i) + 1) (pEn (pst t P n i)) (pSw (pst t P n i)) en (hasE en (pL (pst t P n i)))).2.2 la))))) (wd_B D classes f sz) (wd_A f sz)) 0 0 (wd_A f sz) := by
  refine wd_Qi (own := R_ClerkRows) (by decide) rfl (Nat.le_of_ble_eq_true rfl) ?_
  intro p e s m args below meth c Q X hK hw ret ls hl
  have hx := X.1
  have hb := X.2.1
  have hown := X.2.2.2.1
  have hts := X.2.2.2.2
  have hl : lv_has ls 9 [(0, .ref a), (1, .int x), (2, .int y), (3, .int en), (4, .long t)] := hl
  refine lv_aload_n hx hb d_ClerkRows_answer_0 rfl (lv_at hl 0 rfl) ?_
  refine lv_iload_n hx hb d_ClerkRows_answer_1 rfl (lv_at hl 1 rfl) ?_
  refine wd_cvq (As := [.int x]) (rest := []) X hK hw (c_ClerkRows_findClerk a mo pa ka md nw lt ha gk hgk x) (cw_ClerkRows_62 hts rfl rfl ⟨(Nat.le_of_ble_eq_true rfl), (Nat.le_of_ble_eq_true rfl)⟩) ha rfl rfl rfl hl.1 rfl (Nat.le_of_ble_eq_true rfl) d_ClerkRows_answer_2 ⟨(Nat.le_of_ble_eq_true rfl), (Nat.le_of_ble_eq_true rfl)⟩ (fun r hz => ?_)
  rcases hz with ⟨j, hj, hxj, hz⟩ | ⟨nxj, hz⟩
  · skip
    rw [(hrk j hj).1] at hz
    subst hz
    have hkj : f (kAd (K j)) = some (eJ (nI j) (K j)) := (hrk j hj).2
    refine lv_astore (lv' := [(6, .ref (kAd (K j))), (0, .ref a), (1, .int x), (2, .int y), (3, .int en), (4, .long t)]) hx hb d_ClerkRows_answer_5 hl (by decide) rfl (fun ls hl => ?_)
    refine lv_aload_n hx hb d_ClerkRows_answer_7 rfl (lv_at hl 1 rfl) ?_
    refine lv_iload_n hx hb d_ClerkRows_answer_8 rfl (lv_at hl 3 rfl) ?_
    refine wd_cvq (As := [.int y]) (rest := []) X hK hw (c_ClerkRows_findPicture a mo pa ka md nw lt ha gp hg y) (cw_ClerkRows_89 hts rfl rfl ⟨(Nat.le_of_ble_eq_true rfl), (Nat.le_of_ble_eq_true rfl)⟩) ha rfl rfl rfl hl.1 rfl (Nat.le_of_ble_eq_true rfl) d_ClerkRows_answer_9 ⟨(Nat.le_of_ble_eq_true rfl), (Nat.le_of_ble_eq_true rfl)⟩ (fun r hz => ?_)
    rcases hz with ⟨i, hi, hxi, hz⟩ | ⟨nxi, hz⟩
    · skip
      rcases Nat.lt_or_ge i n with hin | hin
      · skip
        obtain ⟨hgi, la, hpi, hci⟩ := hr.2.1 i hin
        rw [hgi] at hz
        subst hz
        refine lv_astore (lv' := [(7, .ref (pAd (P i))), (6, .ref (kAd (K j))), (0, .ref a), (1, .int x), (2, .int y), (3, .int en), (4, .long t)]) hx hb d_ClerkRows_answer_12 hl (by decide) rfl (fun ls hl => ?_)
        refine lv_aload hx hb d_ClerkRows_answer_14 (lv_at hl 1 rfl) ?_
        refine lv_ifnull hx hb d_ClerkRows_answer_16 ?_
        refine lv_aload hx hb d_ClerkRows_answer_19 (lv_at hl 0 rfl) ?_
        refine lv_ifnonnull (tgt := 27) hx hb d_ClerkRows_answer_21 (by decide) ?_
        refine lv_iload_n hx hb d_ClerkRows_answer_27 rfl (lv_at hl 5 rfl) ?_
        refine lv_sipush (v := 9999) hx hb d_ClerkRows_answer_28 (by decide) ?_
        refine wd_csi (As := [.int en, .int 9999]) (rest := []) X hK hw (c_ClerkRows_isWithin en 9999) (cw_ClerkRows_51 hts rfl rfl ⟨(Nat.le_of_ble_eq_true rfl), (Nat.le_of_ble_eq_true rfl)⟩) rfl hl.1 rfl (Nat.le_of_ble_eq_true rfl) d_ClerkRows_answer_31 ⟨(Nat.le_of_ble_eq_true rfl), (Nat.le_of_ble_eq_true rfl)⟩ (fun r hz => ?_)
        rcases hz with ⟨z1, rfl⟩ | ⟨z1, rfl⟩
        · skip
          refine lv_if_eq (tgt := 46) hx hb d_ClerkRows_answer_34 (by decide) (fun c2 => ?_) (fun c2 => ?_)
          · exact absurd c2 (by decide)
          · skip
            refine lv_aload_n hx hb d_ClerkRows_answer_37 rfl (lv_at hl 2 rfl) ?_
            refine lv_lload hx hb d_ClerkRows_answer_38 (lv_at hl 6 rfl) ?_
            refine wd_cvi (As := [.long t]) (rest := []) X hK hw (c_ClerkRows_isTime a mo pa ka md nw lt ha t) (cw_ClerkRows_47 hts rfl rfl ⟨(Nat.le_of_ble_eq_true rfl), (Nat.le_of_ble_eq_true rfl)⟩) ha rfl rfl rfl hl.1 rfl (Nat.le_of_ble_eq_true rfl) d_ClerkRows_answer_40 ⟨(Nat.le_of_ble_eq_true rfl), (Nat.le_of_ble_eq_true rfl)⟩ (fun r hz => ?_)
            rcases hz with ⟨z3, rfl⟩ | ⟨z3, rfl⟩
            · skip
              refine lv_if_ne (tgt := 49) hx hb d_ClerkRows_answer_43 (by decide) (fun c4 => ?_) (fun c4 => ?_)
              · skip
                rcases htu : kTu (K j) with _ | tq
                · skip
                  have hkj : f (kAd (K j)) = some (eK (nI j) (kIn (K j)) (kOf (K j)) (kSk (K j)) none) := by rw [← htu]; exact hkj
                  refine lv_aload hx hb d_ClerkRows_answer_49 (lv_at hl 1 rfl) ?_
                  refine fg_ClerkRows_70 X hK hw hkj d_ClerkRows_answer_51 ?_
                  refine lv_astoreN (lv' := [(8, .null), (7, .ref (pAd (P i))), (6, .ref (kAd (K j))), (0, .ref a), (1, .int x), (2, .int y), (3, .int en), (4, .long t)]) hx hb d_ClerkRows_answer_54 hl (by decide) rfl (fun ls hl => ?_)
                  refine lv_aloadN hx hb d_ClerkRows_answer_56 (lv_at hl 0 rfl) ?_
                  refine lv_ifnullN (tgt := 70) hx hb d_ClerkRows_answer_58 (by decide) ?_
                  refine lv_bipush (v := (-103)) hx hb d_ClerkRows_answer_70 (by decide) ?_
                  exact ret _ _ _ _ _ _ d_ClerkRows_answer_72 hw (Or.inr ⟨j, i, hj, hin, hxj, hxi, Or.inr ⟨⟨z1, z3⟩, Or.inl ⟨(fun q c o e t z => by rw [htu] at z; cases z.1), rfl, rfl⟩⟩⟩)
                · skip
                  obtain ⟨pn, ck, to, ea, te, ht⟩ := hT j hj tq htu
                  have ht0 := ht
                  have hkj : f (kAd (K j)) = some (eK (nI j) (kIn (K j)) (kOf (K j)) (kSk (K j)) (some tq)) := by rw [← htu]; exact hkj
                  refine lv_aload hx hb d_ClerkRows_answer_49 (lv_at hl 1 rfl) ?_
                  refine fg_ClerkRows_70 X hK hw hkj d_ClerkRows_answer_51 ?_
                  refine lv_astore (lv' := [(8, .ref tq), (7, .ref (pAd (P i))), (6, .ref (kAd (K j))), (0, .ref a), (1, .int x), (2, .int y), (3, .int en), (4, .long t)]) hx hb d_ClerkRows_answer_54 hl (by decide) rfl (fun ls hl => ?_)
                  refine lv_aload hx hb d_ClerkRows_answer_56 (lv_at hl 0 rfl) ?_
                  refine lv_ifnull hx hb d_ClerkRows_answer_58 ?_
                  refine lv_aload hx hb d_ClerkRows_answer_61 (lv_at hl 0 rfl) ?_
                  refine fg_ClerkRows_93 X hK hw ht d_ClerkRows_answer_63 ?_
                  refine lv_iload_n hx hb d_ClerkRows_answer_66 rfl (lv_at hl 5 rfl) ?_
                  refine lv_icmp_eq (tgt := 73) hx hb d_ClerkRows_answer_67 (by decide) (fun c5 => ?_) (fun c5 => ?_)
                  · skip
                    have hpn : pn = nI (i + 1) := c5.trans hxi
                    subst hpn
                    refine lv_aload_n hx hb d_ClerkRows_answer_73 rfl (lv_at hl 3 rfl) ?_
                    refine lv_lload hx hb d_ClerkRows_answer_74 (lv_at hl 7 rfl) ?_
                    refine wd_mvv (As := [.long t]) (rest := []) X hK hw (c_ClerkRows_passTo a mo pa ka md nw lt ha gp hg n P hr t) (cw_ClerkRows_74 hts rfl rfl ⟨(Nat.le_of_ble_eq_true rfl), (Nat.le_of_ble_eq_true rfl)⟩) ha rfl rfl rfl hl.1 rfl (Nat.le_of_ble_eq_true rfl) d_ClerkRows_answer_76 ⟨(Nat.le_of_ble_eq_true rfl), (Nat.le_of_ble_eq_true rfl)⟩ (fun f6 H locs hz hw => ?_)
                    obtain ⟨ha1, hg1, hr1, hk1⟩ := hz
                    have hgk1 : f6 ka = some (eA (ca 1) 20 gk) := ar_keep hgk ha hr hk1
                    have hrk1 : rk f6 gk K := rk_keep hrk ha hr hk1
                    have hkj1 : f6 (kAd (K j)) = some (eK (nI j) (kIn (K j)) (kOf (K j)) (kSk (K j)) (some tq)) := by rw [hk1 _ (wd_ne hkj ha (by decide)) (fun i hi => by obtain ⟨-, la, h2, -⟩ := hr.2.1 i hi; exact wd_ne hkj h2 (by decide))]; exact hkj
                    have ht1 : f6 tq = some (eT (nI (i + 1)) ck to ea te) := tu_keep ht ha hr hk1
                    obtain ⟨-, la1, hp1, hc1⟩ := hr1.2.1 i hin
                    have had : pAd (P i) = pAd (pst t P n i) := (pst_ad t P n i).symm
                    have hp10 := hp1
                    have ht10 := ht1
                    have hl : lv_has ls 9 [(8, .ref tq), (7, .ref (pAd (pst t P n i))), (6, .ref (kAd (K j))), (0, .ref a), (1, .int x), (2, .int y), (3, .int en), (4, .long t)] := by rw [← had]; exact hl
                    have hkj10 := hkj1
                    have ha10 := ha1
                    have hg10 := hg1
                    refine lv_aload hx hb d_ClerkRows_answer_79 (lv_at hl 2 rfl) ?_
                    refine lv_null hx hb d_ClerkRows_answer_81 ?_
                    refine fp_ClerkRows_70 X hK hw hkj1 rfl rfl d_ClerkRows_answer_82 (fun f7 H locs ef7 hw => ?_)
                    have ha1 : f7 a = some (eR mo pa ka md t (lt + nI (cL t P n))) := by rw [ef7, wd_un (wd_ne ha1 hkj1 (by decide))]; exact ha1
                    have hg1 : f7 pa = some (eA (ca 0) 300 gp) := by rw [ef7, wd_un (Ne.symm (wd_neA hkj1 hg1))]; exact hg1
                    have hgk1 : f7 ka = some (eA (ca 1) 20 gk) := by rw [ef7, wd_un (Ne.symm (wd_neA hkj1 hgk1))]; exact hgk1
                    have ht1 : f7 tq = some (eT (nI (i + 1)) ck to ea te) := by rw [ef7, wd_un (wd_ne ht1 hkj1 (by decide))]; exact ht1
                    have hp1 : f7 (pAd (pst t P n i)) = some (eP (nI (i + 1)) (pDu (pst t P n i)) (pSk (pst t P n i)) (pWa (pst t P n i)) (pAn (pst t P n i)) (pEn (pst t P n i)) (pSw (pst t P n i)) la1) := by rw [ef7, wd_un (wd_ne hp1 hkj1 (by decide))]; exact hp1
                    have hkj1 : f7 (kAd (K j)) = some (eK (nI j) (kIn (K j)) (kOf (K j)) (kSk (K j)) none) := by rw [ef7]; exact wd_us
                    refine lv_aload hx hb d_ClerkRows_answer_85 (lv_at hl 1 rfl) ?_
                    refine lv_aload hx hb d_ClerkRows_answer_87 (lv_at hl 0 rfl) ?_
                    refine lv_iload_n hx hb d_ClerkRows_answer_89 rfl (lv_at hl 6 rfl) ?_
                    have hc2 : cx f7 (nI (i + 1)) (pL (pst t P n i)) la1 := by rw [ef7]; exact cx_upC hkj10 (by decide) hc1
                    refine wd_mvv (As := [.ref tq, .int en]) (rest := []) X hK hw (c_Picture_takeEntry (pAd (pst t P n i)) (nI (i + 1)) (pDu (pst t P n i)) (pSk (pst t P n i)) (pWa (pst t P n i)) (pAn (pst t P n i)) (pEn (pst t P n i)) (pSw (pst t P n i)) la1 hp1 (pL (pst t P n i)) hc2 tq ck to ea te ht1 en) (cw_ClerkRows_98 hts rfl rfl ⟨(Nat.le_of_ble_eq_true rfl), (Nat.le_of_ble_eq_true rfl)⟩) hp1 rfl rfl rfl hl.1 rfl (Nat.le_of_ble_eq_true rfl) d_ClerkRows_answer_90 ⟨(Nat.le_of_ble_eq_true rfl), (Nat.le_of_ble_eq_true rfl)⟩ (fun f8 H locs ef8 hw => ?_)
                    have hc3 : cx f8 (nI (i + 1)) (sE tq en (pL (pst t P n i))) la1 := by rw [ef8]; exact cx_upC (by rw [wd_un (wd_ne hp1 ht1 (by decide))]; exact hp1) (by decide) (cx_entry ht1 _ _ hc2)
                    have hp1 : f8 (pAd (pst t P n i)) = some (eP (nI (i + 1)) (pDu (pst t P n i)) (pSk (pst t P n i)) ((tE (pWa (pst t P n i)) ((pAn (pst t P n i)) + 1) (pEn (pst t P n i)) (pSw (pst t P n i)) en (hasE en (pL (pst t P n i)))).1) ((pAn (pst t P n i)) + 1) ((tE (pWa (pst t P n i)) ((pAn (pst t P n i)) + 1) (pEn (pst t P n i)) (pSw (pst t P n i)) en (hasE en (pL (pst t P n i)))).2.1) ((tE (pWa (pst t P n i)) ((pAn (pst t P n i)) + 1) (pEn (pst t P n i)) (pSw (pst t P n i)) en (hasE en (pL (pst t P n i)))).2.2) la1) := by rw [ef8]; exact wd_us
                    refine lv_aload hx hb d_ClerkRows_answer_93 (lv_at hl 1 rfl) ?_
                    refine wd_cvi (As := []) (rest := []) X hK hw (c_Picture_findState (pAd (pst t P n i)) (nI (i + 1)) (pDu (pst t P n i)) (pSk (pst t P n i)) ((tE (pWa (pst t P n i)) ((pAn (pst t P n i)) + 1) (pEn (pst t P n i)) (pSw (pst t P n i)) en (hasE en (pL (pst t P n i)))).1) ((pAn (pst t P n i)) + 1) ((tE (pWa (pst t P n i)) ((pAn (pst t P n i)) + 1) (pEn (pst t P n i)) (pSw (pst t P n i)) en (hasE en (pL (pst t P n i)))).2.1) ((tE (pWa (pst t P n i)) ((pAn (pst t P n i)) + 1) (pEn (pst t P n i)) (pSw (pst t P n i)) en (hasE en (pL (pst t P n i)))).2.2) la1 hp1 (sE tq en (pL (pst t P n i))) hc3) (cw_ClerkRows_102 hts rfl rfl ⟨(Nat.le_of_ble_eq_true rfl), (Nat.le_of_ble_eq_true rfl)⟩) hp1 rfl rfl rfl hl.1 rfl (Nat.le_of_ble_eq_true rfl) d_ClerkRows_answer_95 ⟨(Nat.le_of_ble_eq_true rfl), (Nat.le_of_ble_eq_true rfl)⟩ (fun r hz => ?_)
                    subst hz
                    exact ret _ _ _ _ _ _ d_ClerkRows_answer_98 hw (Or.inr ⟨j, i, hj, hin, hxj, hxi, Or.inr ⟨⟨z1, z3⟩, Or.inr ⟨tq, ck, to, ea, te, htu, ht0, _, ha10, hg10, hr1, hk1, la1, hp10, rfl, by rw [ef8, ef7]; try rfl⟩⟩⟩)
                  · skip
                    refine lv_bipush (v := (-103)) hx hb d_ClerkRows_answer_70 (by decide) ?_
                    exact ret _ _ _ _ _ _ d_ClerkRows_answer_72 hw (Or.inr ⟨j, i, hj, hin, hxj, hxi, Or.inr ⟨⟨z1, z3⟩, Or.inl ⟨(fun q c o e t z => by rw [htu] at z; obtain ⟨z1, z2⟩ := z; cases z1; rw [ht0] at z2; simp only [Option.some.injEq, Sum.inr.injEq, Prod.mk.injEq, List.cons.injEq, Value.int.injEq] at z2; exact c5 (z2.2.1.trans hxi.symm)), rfl, rfl⟩⟩⟩)
              · exact absurd c4 (by decide)
            · skip
              refine lv_if_ne (tgt := 49) hx hb d_ClerkRows_answer_43 (by decide) (fun c9 => ?_) (fun c9 => ?_)
              · exact absurd c9 (by decide)
              · skip
                refine lv_bipush (v := (-102)) hx hb d_ClerkRows_answer_46 (by decide) ?_
                exact ret _ _ _ _ _ _ d_ClerkRows_answer_48 hw (Or.inr ⟨j, i, hj, hin, hxj, hxi, Or.inl ⟨(fun q => z3 q.2), rfl, rfl⟩⟩)
        · skip
          refine lv_if_eq (tgt := 46) hx hb d_ClerkRows_answer_34 (by decide) (fun c10 => ?_) (fun c10 => ?_)
          · skip
            refine lv_bipush (v := (-102)) hx hb d_ClerkRows_answer_46 (by decide) ?_
            exact ret _ _ _ _ _ _ d_ClerkRows_answer_48 hw (Or.inr ⟨j, i, hj, hin, hxj, hxi, Or.inl ⟨(fun q => z1 q.1), rfl, rfl⟩⟩)
          · exact absurd c10 (by decide)
      · skip
        rw [hr.2.2 i hin] at hz
        subst hz
        refine lv_astoreN (lv' := [(7, .null), (6, .ref (kAd (K j))), (0, .ref a), (1, .int x), (2, .int y), (3, .int en), (4, .long t)]) hx hb d_ClerkRows_answer_12 hl (by decide) rfl (fun ls hl => ?_)
        refine lv_aload hx hb d_ClerkRows_answer_14 (lv_at hl 1 rfl) ?_
        refine lv_ifnull hx hb d_ClerkRows_answer_16 ?_
        refine lv_aloadN hx hb d_ClerkRows_answer_19 (lv_at hl 0 rfl) ?_
        refine lv_ifnonnullN hx hb d_ClerkRows_answer_21 ?_
        refine lv_bipush (v := (-101)) hx hb d_ClerkRows_answer_24 (by decide) ?_
        exact ret _ _ _ _ _ _ d_ClerkRows_answer_26 hw (Or.inl ⟨Or.inr (no_Q hr.1 hi hxi hin), rfl, rfl⟩)
    · skip
      subst hz
      refine lv_astoreN (lv' := [(7, .null), (6, .ref (kAd (K j))), (0, .ref a), (1, .int x), (2, .int y), (3, .int en), (4, .long t)]) hx hb d_ClerkRows_answer_12 hl (by decide) rfl (fun ls hl => ?_)
      refine lv_aload hx hb d_ClerkRows_answer_14 (lv_at hl 1 rfl) ?_
      refine lv_ifnull hx hb d_ClerkRows_answer_16 ?_
      refine lv_aloadN hx hb d_ClerkRows_answer_19 (lv_at hl 0 rfl) ?_
      refine lv_ifnonnullN hx hb d_ClerkRows_answer_21 ?_
      refine lv_bipush (v := (-101)) hx hb d_ClerkRows_answer_24 (by decide) ?_
      exact ret _ _ _ _ _ _ d_ClerkRows_answer_26 hw (Or.inl ⟨Or.inr (no_P hr.1 nxi), rfl, rfl⟩)
  · skip
    subst hz
    refine lv_astoreN (lv' := [(6, .null), (0, .ref a), (1, .int x), (2, .int y), (3, .int en), (4, .long t)]) hx hb d_ClerkRows_answer_5 hl (by decide) rfl (fun ls hl => ?_)
    refine lv_aload_n hx hb d_ClerkRows_answer_7 rfl (lv_at hl 1 rfl) ?_
    refine lv_iload_n hx hb d_ClerkRows_answer_8 rfl (lv_at hl 3 rfl) ?_
    refine wd_cvq (As := [.int y]) (rest := []) X hK hw (c_ClerkRows_findPicture a mo pa ka md nw lt ha gp hg y) (cw_ClerkRows_89 hts rfl rfl ⟨(Nat.le_of_ble_eq_true rfl), (Nat.le_of_ble_eq_true rfl)⟩) ha rfl rfl rfl hl.1 rfl (Nat.le_of_ble_eq_true rfl) d_ClerkRows_answer_9 ⟨(Nat.le_of_ble_eq_true rfl), (Nat.le_of_ble_eq_true rfl)⟩ (fun r hz => ?_)
    rcases hz with ⟨i, hi, hxi, hz⟩ | ⟨nxi, hz⟩
    · skip
      rcases Nat.lt_or_ge i n with hin | hin
      · skip
        obtain ⟨hgi, la, hpi, hci⟩ := hr.2.1 i hin
        rw [hgi] at hz
        subst hz
        refine lv_astore (lv' := [(7, .ref (pAd (P i))), (6, .null), (0, .ref a), (1, .int x), (2, .int y), (3, .int en), (4, .long t)]) hx hb d_ClerkRows_answer_12 hl (by decide) rfl (fun ls hl => ?_)
        refine lv_aloadN hx hb d_ClerkRows_answer_14 (lv_at hl 1 rfl) ?_
        refine lv_ifnullN (tgt := 24) hx hb d_ClerkRows_answer_16 (by decide) ?_
        refine lv_bipush (v := (-101)) hx hb d_ClerkRows_answer_24 (by decide) ?_
        exact ret _ _ _ _ _ _ d_ClerkRows_answer_26 hw (Or.inl ⟨Or.inl (no_K nxj), rfl, rfl⟩)
      · skip
        rw [hr.2.2 i hin] at hz
        subst hz
        refine lv_astoreN (lv' := [(7, .null), (6, .null), (0, .ref a), (1, .int x), (2, .int y), (3, .int en), (4, .long t)]) hx hb d_ClerkRows_answer_12 hl (by decide) rfl (fun ls hl => ?_)
        refine lv_aloadN hx hb d_ClerkRows_answer_14 (lv_at hl 1 rfl) ?_
        refine lv_ifnullN (tgt := 24) hx hb d_ClerkRows_answer_16 (by decide) ?_
        refine lv_bipush (v := (-101)) hx hb d_ClerkRows_answer_24 (by decide) ?_
        exact ret _ _ _ _ _ _ d_ClerkRows_answer_26 hw (Or.inl ⟨Or.inl (no_K nxj), rfl, rfl⟩)
    · skip
      subst hz
      refine lv_astoreN (lv' := [(7, .null), (6, .null), (0, .ref a), (1, .int x), (2, .int y), (3, .int en), (4, .long t)]) hx hb d_ClerkRows_answer_12 hl (by decide) rfl (fun ls hl => ?_)
      refine lv_aloadN hx hb d_ClerkRows_answer_14 (lv_at hl 1 rfl) ?_
      refine lv_ifnullN (tgt := 24) hx hb d_ClerkRows_answer_16 (by decide) ?_
      refine lv_bipush (v := (-101)) hx hb d_ClerkRows_answer_24 (by decide) ?_
      exact ret _ _ _ _ _ _ d_ClerkRows_answer_26 hw (Or.inl ⟨Or.inl (no_K nxj), rfl, rfl⟩)

