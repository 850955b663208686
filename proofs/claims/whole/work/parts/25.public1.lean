abbrev rm_ClerkRows_settled : Room := { frames := 1, cells := 0, slots := 0, locals := 21 }
set_option maxHeartbeats 4000000 in
set_option maxRecDepth 100000 in
theorem c_ClerkRows_settled {l : Launch} {D : va_G} {ca : Nat → ClassId} {f : wd_M} (a : Nat) (mo : Int32) (pa ka : Nat) (md : Int32) (nw : Int64) (lt : Int32) (ha : f a = some (eR mo pa ka md nw lt)) (gp : Nat → Option Nat) (hg : f pa = some (eA (ca 0) 300 gp)) (n : Nat) (P : Nat → PT) (hr : rp f gp n P) (x : Int32) : Met l y_ClerkRows_settled (.code y_ClerkRows_settled b_ClerkRows_settled 3 (some .int) :: tb) rm_ClerkRows_settled (va_Pc [.ref a, .int x] (wd_pre D classes (ty ca) f)) (vp_Si (fun r => (∃ i : Nat, i < n ∧ x = nI (i + 1) ∧ r = if pEn (P i) = 0 then -1 else pSw (P i)) ∨ ((∀ i : Nat, i < n → x ≠ nI (i + 1)) ∧ r = -101))) 0 0 (fun _ => False) := by
  refine wd_Si (own := R_ClerkRows) (by decide) rfl (Nat.le_of_ble_eq_true rfl) ?_
  intro p e s m args below meth c Q X hK hw ret ls hl
  have hx := X.1
  have hb := X.2.1
  have hown := X.2.2.2.1
  have hts := X.2.2.2.2
  have hl : lv_has ls 3 [(0, .ref a), (1, .int x)] := hl
  refine lv_aload_n hx hb d_ClerkRows_settled_0 rfl (lv_at hl 0 rfl) ?_
  refine lv_iload_n hx hb d_ClerkRows_settled_1 rfl (lv_at hl 1 rfl) ?_
  refine wd_cvq (As := [.int x]) (rest := []) X hK hw (c_ClerkRows_findPicture a mo pa ka md nw lt ha gp hg x) (cw_ClerkRows_89 hts rfl rfl ⟨(Nat.le_of_ble_eq_true rfl), (Nat.le_of_ble_eq_true rfl)⟩) ha rfl rfl rfl hl.1 rfl (Nat.le_of_ble_eq_true rfl) d_ClerkRows_settled_2 ⟨(Nat.le_of_ble_eq_true rfl), (Nat.le_of_ble_eq_true rfl)⟩ (fun r hz => ?_)
  rcases hz with ⟨i, hi, hxi, hz⟩ | ⟨nxi, hz⟩
  · skip
    rcases Nat.lt_or_ge i n with hin | hin
    · skip
      obtain ⟨hgi, la, hpi, hci⟩ := hr.2.1 i hin
      rw [hgi] at hz
      subst hz
      refine lv_astore_n (lv' := [(2, .ref (pAd (P i))), (0, .ref a), (1, .int x)]) hx hb d_ClerkRows_settled_5 rfl hl (by decide) rfl (fun ls hl => ?_)
      refine lv_aload_n hx hb d_ClerkRows_settled_6 rfl (lv_at hl 0 rfl) ?_
      refine lv_ifnonnull (tgt := 13) hx hb d_ClerkRows_settled_7 (by decide) ?_
      refine lv_aload_n hx hb d_ClerkRows_settled_13 rfl (lv_at hl 0 rfl) ?_
      refine wd_cvi (As := []) (rest := []) X hK hw (c_Picture_hasEnded (pAd (P i)) (nI (i + 1)) (pDu (P i)) (pSk (P i)) (pWa (P i)) (pAn (P i)) (pEn (P i)) (pSw (P i)) la hpi) (cw_ClerkRows_114 hts rfl rfl ⟨(Nat.le_of_ble_eq_true rfl), (Nat.le_of_ble_eq_true rfl)⟩) hpi rfl rfl rfl hl.1 rfl (Nat.le_of_ble_eq_true rfl) d_ClerkRows_settled_14 ⟨(Nat.le_of_ble_eq_true rfl), (Nat.le_of_ble_eq_true rfl)⟩ (fun r hz => ?_)
      rcases hz with ⟨z1, rfl⟩ | ⟨z1, rfl⟩
      · skip
        refine lv_if_ne (tgt := 22) hx hb d_ClerkRows_settled_17 (by decide) (fun c2 => ?_) (fun c2 => ?_)
        · skip
          refine lv_aload_n hx hb d_ClerkRows_settled_22 rfl (lv_at hl 0 rfl) ?_
          refine fg_ClerkRows_118 X hK hw hpi d_ClerkRows_settled_23 ?_
          exact ret _ _ _ d_ClerkRows_settled_26 (Or.inl ⟨i, hin, hxi, by rw [if_neg z1]⟩)
        · exact absurd c2 (by decide)
      · skip
        refine lv_if_ne (tgt := 22) hx hb d_ClerkRows_settled_17 (by decide) (fun c3 => ?_) (fun c3 => ?_)
        · exact absurd c3 (by decide)
        · skip
          refine lv_iconst (v := (-1)) hx hb d_ClerkRows_settled_20 (by decide) ?_
          exact ret _ _ _ d_ClerkRows_settled_21 (Or.inl ⟨i, hin, hxi, by rw [if_pos (Decidable.not_not.mp z1)]⟩)
    · skip
      rw [hr.2.2 i hin] at hz
      subst hz
      refine lv_astore_nN (lv' := [(2, .null), (0, .ref a), (1, .int x)]) hx hb d_ClerkRows_settled_5 rfl hl (by decide) rfl (fun ls hl => ?_)
      refine lv_aload_nN hx hb d_ClerkRows_settled_6 rfl (lv_at hl 0 rfl) ?_
      refine lv_ifnonnullN hx hb d_ClerkRows_settled_7 ?_
      refine lv_bipush (v := (-101)) hx hb d_ClerkRows_settled_10 (by decide) ?_
      exact ret _ _ _ d_ClerkRows_settled_12 (Or.inr ⟨(no_Q hr.1 hi hxi hin), rfl⟩)
  · skip
    subst hz
    refine lv_astore_nN (lv' := [(2, .null), (0, .ref a), (1, .int x)]) hx hb d_ClerkRows_settled_5 rfl hl (by decide) rfl (fun ls hl => ?_)
    refine lv_aload_nN hx hb d_ClerkRows_settled_6 rfl (lv_at hl 0 rfl) ?_
    refine lv_ifnonnullN hx hb d_ClerkRows_settled_7 ?_
    refine lv_bipush (v := (-101)) hx hb d_ClerkRows_settled_10 (by decide) ?_
    exact ret _ _ _ d_ClerkRows_settled_12 (Or.inr ⟨(no_P hr.1 nxi), rfl⟩)

abbrev rm_ClerkRows_state : Room := { frames := 2, cells := 0, slots := 0, locals := 42 }
set_option maxHeartbeats 4000000 in
set_option maxRecDepth 100000 in
theorem c_ClerkRows_state {l : Launch} {D : va_G} {ca : Nat → ClassId} {f : wd_M} (a : Nat) (mo : Int32) (pa ka : Nat) (md : Int32) (nw : Int64) (lt : Int32) (ha : f a = some (eR mo pa ka md nw lt)) (gp : Nat → Option Nat) (hg : f pa = some (eA (ca 0) 300 gp)) (n : Nat) (P : Nat → PT) (hr : rp f gp n P) (x : Int32) : Met l y_ClerkRows_state (.code y_ClerkRows_state b_ClerkRows_state 3 (some .int) :: tb) rm_ClerkRows_state (va_Pc [.ref a, .int x] (wd_pre D classes (ty ca) f)) (vp_Si (fun r => (∃ i : Nat, i < n ∧ x = nI (i + 1) ∧ r = stt (pEn (P i)) (pWa (P i)) (tk (pL (P i)))) ∨ ((∀ i : Nat, i < n → x ≠ nI (i + 1)) ∧ r = -101))) 0 0 (fun _ => False) := by
  refine wd_Si (own := R_ClerkRows) (by decide) rfl (Nat.le_of_ble_eq_true rfl) ?_
  intro p e s m args below meth c Q X hK hw ret ls hl
  have hx := X.1
  have hb := X.2.1
  have hown := X.2.2.2.1
  have hts := X.2.2.2.2
  have hl : lv_has ls 3 [(0, .ref a), (1, .int x)] := hl
  refine lv_aload_n hx hb d_ClerkRows_state_0 rfl (lv_at hl 0 rfl) ?_
  refine lv_iload_n hx hb d_ClerkRows_state_1 rfl (lv_at hl 1 rfl) ?_
  refine wd_cvq (As := [.int x]) (rest := []) X hK hw (c_ClerkRows_findPicture a mo pa ka md nw lt ha gp hg x) (cw_ClerkRows_89 hts rfl rfl ⟨(Nat.le_of_ble_eq_true rfl), (Nat.le_of_ble_eq_true rfl)⟩) ha rfl rfl rfl hl.1 rfl (Nat.le_of_ble_eq_true rfl) d_ClerkRows_state_2 ⟨(Nat.le_of_ble_eq_true rfl), (Nat.le_of_ble_eq_true rfl)⟩ (fun r hz => ?_)
  rcases hz with ⟨i, hi, hxi, hz⟩ | ⟨nxi, hz⟩
  · skip
    rcases Nat.lt_or_ge i n with hin | hin
    · skip
      obtain ⟨hgi, la, hpi, hci⟩ := hr.2.1 i hin
      rw [hgi] at hz
      subst hz
      refine lv_astore_n (lv' := [(2, .ref (pAd (P i))), (0, .ref a), (1, .int x)]) hx hb d_ClerkRows_state_5 rfl hl (by decide) rfl (fun ls hl => ?_)
      refine lv_aload_n hx hb d_ClerkRows_state_6 rfl (lv_at hl 0 rfl) ?_
      refine lv_ifnonnull (tgt := 13) hx hb d_ClerkRows_state_7 (by decide) ?_
      refine lv_aload_n hx hb d_ClerkRows_state_13 rfl (lv_at hl 0 rfl) ?_
      refine wd_cvi (As := []) (rest := []) X hK hw (c_Picture_findState (pAd (P i)) (nI (i + 1)) (pDu (P i)) (pSk (P i)) (pWa (P i)) (pAn (P i)) (pEn (P i)) (pSw (P i)) la hpi (pL (P i)) hci) (cw_ClerkRows_102 hts rfl rfl ⟨(Nat.le_of_ble_eq_true rfl), (Nat.le_of_ble_eq_true rfl)⟩) hpi rfl rfl rfl hl.1 rfl (Nat.le_of_ble_eq_true rfl) d_ClerkRows_state_14 ⟨(Nat.le_of_ble_eq_true rfl), (Nat.le_of_ble_eq_true rfl)⟩ (fun r hz => ?_)
      subst hz
      exact ret _ _ _ d_ClerkRows_state_17 (Or.inl ⟨i, hin, hxi, rfl⟩)
    · skip
      rw [hr.2.2 i hin] at hz
      subst hz
      refine lv_astore_nN (lv' := [(2, .null), (0, .ref a), (1, .int x)]) hx hb d_ClerkRows_state_5 rfl hl (by decide) rfl (fun ls hl => ?_)
      refine lv_aload_nN hx hb d_ClerkRows_state_6 rfl (lv_at hl 0 rfl) ?_
      refine lv_ifnonnullN hx hb d_ClerkRows_state_7 ?_
      refine lv_bipush (v := (-101)) hx hb d_ClerkRows_state_10 (by decide) ?_
      exact ret _ _ _ d_ClerkRows_state_12 (Or.inr ⟨(no_Q hr.1 hi hxi hin), rfl⟩)
  · skip
    subst hz
    refine lv_astore_nN (lv' := [(2, .null), (0, .ref a), (1, .int x)]) hx hb d_ClerkRows_state_5 rfl hl (by decide) rfl (fun ls hl => ?_)
    refine lv_aload_nN hx hb d_ClerkRows_state_6 rfl (lv_at hl 0 rfl) ?_
    refine lv_ifnonnullN hx hb d_ClerkRows_state_7 ?_
    refine lv_bipush (v := (-101)) hx hb d_ClerkRows_state_10 (by decide) ?_
    exact ret _ _ _ d_ClerkRows_state_12 (Or.inr ⟨(no_P hr.1 nxi), rfl⟩)

abbrev rm_ClerkRows_office : Room := { frames := 1, cells := 0, slots := 0, locals := 21 }
set_option maxHeartbeats 4000000 in
set_option maxRecDepth 100000 in
theorem c_ClerkRows_office {l : Launch} {D : va_G} {ca : Nat → ClassId} {f : wd_M} {sz : Nat} (a : Nat) (mo : Int32) (pa ka : Nat) (md : Int32) (nw : Int64) (lt : Int32) (ha : f a = some (eR mo pa ka md nw lt)) (gk : Nat → Option Nat) (K : Nat → KT) (hgk : f ka = some (eA (ca 1) 20 gk)) (hrk : rk f gk K) (x of sk : Int32) : Met l y_ClerkRows_office (.code y_ClerkRows_office b_ClerkRows_office 5 (some .int) :: tb) rm_ClerkRows_office (va_Pc [.ref a, .int x, .int of, .int sk] (wd_preZ D classes (ty ca) f sz)) (va_Qi (fun r f' => ((∀ j : Nat, j < 20 → x ≠ nI j) ∧ r = -101 ∧ f' = f) ∨ ∃ j : Nat, j < 20 ∧ x = nI j ∧ ((¬ (wi of 4 ∧ wi sk 3) ∧ r = -102 ∧ f' = f) ∨ ((wi of 4 ∧ wi sk 3) ∧ (((¬ kIn (K j) = 0 ∧ kOf (K j) = of ∧ kSk (K j) = sk) ∧ r = 0 ∧ f' = f) ∨ (¬ (¬ kIn (K j) = 0 ∧ kOf (K j) = of ∧ kSk (K j) = sk) ∧ r = 1 ∧ f' = wd_up f (kAd (K j)) (eK (nI j) 1 of sk (kTu (K j)))))))) (wd_B D classes f sz) (wd_A f sz)) 0 0 (wd_A f sz) := by
  refine wd_Qi (own := R_ClerkRows) (by decide) rfl (Nat.le_of_ble_eq_true rfl) ?_
  intro p e s m args below meth c Q X hK hw ret ls hl
  have hx := X.1
  have hb := X.2.1
  have hown := X.2.2.2.1
  have hts := X.2.2.2.2
  have hl : lv_has ls 5 [(0, .ref a), (1, .int x), (2, .int of), (3, .int sk)] := hl
  refine lv_aload_n hx hb d_ClerkRows_office_0 rfl (lv_at hl 0 rfl) ?_
  refine lv_iload_n hx hb d_ClerkRows_office_1 rfl (lv_at hl 1 rfl) ?_
  refine wd_cvq (As := [.int x]) (rest := []) X hK hw (c_ClerkRows_findClerk a mo pa ka md nw lt ha gk hgk x) (cw_ClerkRows_62 hts rfl rfl ⟨(Nat.le_of_ble_eq_true rfl), (Nat.le_of_ble_eq_true rfl)⟩) ha rfl rfl rfl hl.1 rfl (Nat.le_of_ble_eq_true rfl) d_ClerkRows_office_2 ⟨(Nat.le_of_ble_eq_true rfl), (Nat.le_of_ble_eq_true rfl)⟩ (fun r hz => ?_)
  rcases hz with ⟨j, hj, hxj, hz⟩ | ⟨nxj, hz⟩
  · skip
    rw [(hrk j hj).1] at hz
    subst hz
    have hkj : f (kAd (K j)) = some (eJ (nI j) (K j)) := (hrk j hj).2
    refine lv_astore (lv' := [(4, .ref (kAd (K j))), (0, .ref a), (1, .int x), (2, .int of), (3, .int sk)]) hx hb d_ClerkRows_office_5 hl (by decide) rfl (fun ls hl => ?_)
    refine lv_aload hx hb d_ClerkRows_office_7 (lv_at hl 0 rfl) ?_
    refine lv_ifnonnull (tgt := 15) hx hb d_ClerkRows_office_9 (by decide) ?_
    refine lv_iload_n hx hb d_ClerkRows_office_15 rfl (lv_at hl 3 rfl) ?_
    refine lv_iconst (v := 4) hx hb d_ClerkRows_office_16 (by decide) ?_
    refine wd_csi (As := [.int of, .int 4]) (rest := []) X hK hw (c_ClerkRows_isWithin of 4) (cw_ClerkRows_51 hts rfl rfl ⟨(Nat.le_of_ble_eq_true rfl), (Nat.le_of_ble_eq_true rfl)⟩) rfl hl.1 rfl (Nat.le_of_ble_eq_true rfl) d_ClerkRows_office_17 ⟨(Nat.le_of_ble_eq_true rfl), (Nat.le_of_ble_eq_true rfl)⟩ (fun r hz => ?_)
    rcases hz with ⟨z1, rfl⟩ | ⟨z1, rfl⟩
    · skip
      refine lv_if_eq (tgt := 31) hx hb d_ClerkRows_office_20 (by decide) (fun c2 => ?_) (fun c2 => ?_)
      · exact absurd c2 (by decide)
      · skip
        refine lv_iload_n hx hb d_ClerkRows_office_23 rfl (lv_at hl 4 rfl) ?_
        refine lv_iconst (v := 3) hx hb d_ClerkRows_office_24 (by decide) ?_
        refine wd_csi (As := [.int sk, .int 3]) (rest := []) X hK hw (c_ClerkRows_isWithin sk 3) (cw_ClerkRows_51 hts rfl rfl ⟨(Nat.le_of_ble_eq_true rfl), (Nat.le_of_ble_eq_true rfl)⟩) rfl hl.1 rfl (Nat.le_of_ble_eq_true rfl) d_ClerkRows_office_25 ⟨(Nat.le_of_ble_eq_true rfl), (Nat.le_of_ble_eq_true rfl)⟩ (fun r hz => ?_)
        rcases hz with ⟨z3, rfl⟩ | ⟨z3, rfl⟩
        · skip
          refine lv_if_ne (tgt := 34) hx hb d_ClerkRows_office_28 (by decide) (fun c4 => ?_) (fun c4 => ?_)
          · skip
            refine lv_aload hx hb d_ClerkRows_office_34 (lv_at hl 0 rfl) ?_
            refine fg_ClerkRows_66 X hK hw hkj d_ClerkRows_office_36 ?_
            refine lv_if_eq (tgt := 62) hx hb d_ClerkRows_office_39 (by decide) (fun c5 => ?_) (fun c5 => ?_)
            · skip
              refine lv_aload hx hb d_ClerkRows_office_62 (lv_at hl 0 rfl) ?_
              refine lv_iconst (v := 1) hx hb d_ClerkRows_office_64 (by decide) ?_
              refine fp_ClerkRows_66 X hK hw hkj rfl rfl d_ClerkRows_office_65 (fun f6 H locs ef6 hw => ?_)
              have ha : f6 a = some (eR mo pa ka md nw lt) := by rw [ef6, wd_un (wd_ne ha hkj (by decide))]; exact ha
              have hgk : f6 ka = some (eA (ca 1) 20 gk) := by rw [ef6, wd_un (Ne.symm (wd_neA hkj hgk))]; exact hgk
              have hkj : f6 (kAd (K j)) = some (eK (nI j) 1 (kOf (K j)) (kSk (K j)) (kTu (K j))) := by rw [ef6]; exact wd_us
              refine lv_aload hx hb d_ClerkRows_office_68 (lv_at hl 0 rfl) ?_
              refine lv_iload_n hx hb d_ClerkRows_office_70 rfl (lv_at hl 3 rfl) ?_
              refine fp_ClerkRows_105 X hK hw hkj rfl rfl d_ClerkRows_office_71 (fun f7 H locs ef7 hw => ?_)
              have ha : f7 a = some (eR mo pa ka md nw lt) := by rw [ef7, wd_un (wd_ne ha hkj (by decide))]; exact ha
              have hgk : f7 ka = some (eA (ca 1) 20 gk) := by rw [ef7, wd_un (Ne.symm (wd_neA hkj hgk))]; exact hgk
              have hkj : f7 (kAd (K j)) = some (eK (nI j) 1 of (kSk (K j)) (kTu (K j))) := by rw [ef7]; exact wd_us
              refine lv_aload hx hb d_ClerkRows_office_74 (lv_at hl 0 rfl) ?_
              refine lv_iload_n hx hb d_ClerkRows_office_76 rfl (lv_at hl 4 rfl) ?_
              refine fp_ClerkRows_108 X hK hw hkj rfl rfl d_ClerkRows_office_77 (fun f8 H locs ef8 hw => ?_)
              have ha : f8 a = some (eR mo pa ka md nw lt) := by rw [ef8, wd_un (wd_ne ha hkj (by decide))]; exact ha
              have hgk : f8 ka = some (eA (ca 1) 20 gk) := by rw [ef8, wd_un (Ne.symm (wd_neA hkj hgk))]; exact hgk
              have hkj : f8 (kAd (K j)) = some (eK (nI j) 1 of sk (kTu (K j))) := by rw [ef8]; exact wd_us
              refine lv_iconst (v := 1) hx hb d_ClerkRows_office_80 (by decide) ?_
              exact ret _ _ _ _ _ _ d_ClerkRows_office_81 hw (Or.inr ⟨j, hj, hxj, Or.inr ⟨⟨z1, z3⟩, Or.inr ⟨(fun q => q.1 c5), rfl, by rw [ef8, ef7, ef6]; (try simp only [wd_uu]); try rfl⟩⟩⟩)
            · skip
              refine lv_aload hx hb d_ClerkRows_office_42 (lv_at hl 0 rfl) ?_
              refine fg_ClerkRows_105 X hK hw hkj d_ClerkRows_office_44 ?_
              refine lv_iload_n hx hb d_ClerkRows_office_47 rfl (lv_at hl 3 rfl) ?_
              refine lv_icmp_ne (tgt := 62) hx hb d_ClerkRows_office_48 (by decide) (fun c9 => ?_) (fun c9 => ?_)
              · skip
                refine lv_aload hx hb d_ClerkRows_office_62 (lv_at hl 0 rfl) ?_
                refine lv_iconst (v := 1) hx hb d_ClerkRows_office_64 (by decide) ?_
                refine fp_ClerkRows_66 X hK hw hkj rfl rfl d_ClerkRows_office_65 (fun f10 H locs ef10 hw => ?_)
                have ha : f10 a = some (eR mo pa ka md nw lt) := by rw [ef10, wd_un (wd_ne ha hkj (by decide))]; exact ha
                have hgk : f10 ka = some (eA (ca 1) 20 gk) := by rw [ef10, wd_un (Ne.symm (wd_neA hkj hgk))]; exact hgk
                have hkj : f10 (kAd (K j)) = some (eK (nI j) 1 (kOf (K j)) (kSk (K j)) (kTu (K j))) := by rw [ef10]; exact wd_us
                refine lv_aload hx hb d_ClerkRows_office_68 (lv_at hl 0 rfl) ?_
                refine lv_iload_n hx hb d_ClerkRows_office_70 rfl (lv_at hl 3 rfl) ?_
                refine fp_ClerkRows_105 X hK hw hkj rfl rfl d_ClerkRows_office_71 (fun f11 H locs ef11 hw => ?_)
                have ha : f11 a = some (eR mo pa ka md nw lt) := by rw [ef11, wd_un (wd_ne ha hkj (by decide))]; exact ha
                have hgk : f11 ka = some (eA (ca 1) 20 gk) := by rw [ef11, wd_un (Ne.symm (wd_neA hkj hgk))]; exact hgk
                have hkj : f11 (kAd (K j)) = some (eK (nI j) 1 of (kSk (K j)) (kTu (K j))) := by rw [ef11]; exact wd_us
                refine lv_aload hx hb d_ClerkRows_office_74 (lv_at hl 0 rfl) ?_
                refine lv_iload_n hx hb d_ClerkRows_office_76 rfl (lv_at hl 4 rfl) ?_
                refine fp_ClerkRows_108 X hK hw hkj rfl rfl d_ClerkRows_office_77 (fun f12 H locs ef12 hw => ?_)
                have ha : f12 a = some (eR mo pa ka md nw lt) := by rw [ef12, wd_un (wd_ne ha hkj (by decide))]; exact ha
                have hgk : f12 ka = some (eA (ca 1) 20 gk) := by rw [ef12, wd_un (Ne.symm (wd_neA hkj hgk))]; exact hgk
                have hkj : f12 (kAd (K j)) = some (eK (nI j) 1 of sk (kTu (K j))) := by rw [ef12]; exact wd_us
                refine lv_iconst (v := 1) hx hb d_ClerkRows_office_80 (by decide) ?_
                exact ret _ _ _ _ _ _ d_ClerkRows_office_81 hw (Or.inr ⟨j, hj, hxj, Or.inr ⟨⟨z1, z3⟩, Or.inr ⟨(fun q => c9 q.2.1), rfl, by rw [ef12, ef11, ef10]; (try simp only [wd_uu]); try rfl⟩⟩⟩)
              · skip
                refine lv_aload hx hb d_ClerkRows_office_51 (lv_at hl 0 rfl) ?_
                refine fg_ClerkRows_108 X hK hw hkj d_ClerkRows_office_53 ?_
                refine lv_iload_n hx hb d_ClerkRows_office_56 rfl (lv_at hl 4 rfl) ?_
                refine lv_icmp_ne (tgt := 62) hx hb d_ClerkRows_office_57 (by decide) (fun c13 => ?_) (fun c13 => ?_)
                · skip
                  refine lv_aload hx hb d_ClerkRows_office_62 (lv_at hl 0 rfl) ?_
                  refine lv_iconst (v := 1) hx hb d_ClerkRows_office_64 (by decide) ?_
                  refine fp_ClerkRows_66 X hK hw hkj rfl rfl d_ClerkRows_office_65 (fun f14 H locs ef14 hw => ?_)
                  have ha : f14 a = some (eR mo pa ka md nw lt) := by rw [ef14, wd_un (wd_ne ha hkj (by decide))]; exact ha
                  have hgk : f14 ka = some (eA (ca 1) 20 gk) := by rw [ef14, wd_un (Ne.symm (wd_neA hkj hgk))]; exact hgk
                  have hkj : f14 (kAd (K j)) = some (eK (nI j) 1 (kOf (K j)) (kSk (K j)) (kTu (K j))) := by rw [ef14]; exact wd_us
                  refine lv_aload hx hb d_ClerkRows_office_68 (lv_at hl 0 rfl) ?_
                  refine lv_iload_n hx hb d_ClerkRows_office_70 rfl (lv_at hl 3 rfl) ?_
                  refine fp_ClerkRows_105 X hK hw hkj rfl rfl d_ClerkRows_office_71 (fun f15 H locs ef15 hw => ?_)
                  have ha : f15 a = some (eR mo pa ka md nw lt) := by rw [ef15, wd_un (wd_ne ha hkj (by decide))]; exact ha
                  have hgk : f15 ka = some (eA (ca 1) 20 gk) := by rw [ef15, wd_un (Ne.symm (wd_neA hkj hgk))]; exact hgk
                  have hkj : f15 (kAd (K j)) = some (eK (nI j) 1 of (kSk (K j)) (kTu (K j))) := by rw [ef15]; exact wd_us
                  refine lv_aload hx hb d_ClerkRows_office_74 (lv_at hl 0 rfl) ?_
                  refine lv_iload_n hx hb d_ClerkRows_office_76 rfl (lv_at hl 4 rfl) ?_
                  refine fp_ClerkRows_108 X hK hw hkj rfl rfl d_ClerkRows_office_77 (fun f16 H locs ef16 hw => ?_)
                  have ha : f16 a = some (eR mo pa ka md nw lt) := by rw [ef16, wd_un (wd_ne ha hkj (by decide))]; exact ha
                  have hgk : f16 ka = some (eA (ca 1) 20 gk) := by rw [ef16, wd_un (Ne.symm (wd_neA hkj hgk))]; exact hgk
                  have hkj : f16 (kAd (K j)) = some (eK (nI j) 1 of sk (kTu (K j))) := by rw [ef16]; exact wd_us
                  refine lv_iconst (v := 1) hx hb d_ClerkRows_office_80 (by decide) ?_
                  exact ret _ _ _ _ _ _ d_ClerkRows_office_81 hw (Or.inr ⟨j, hj, hxj, Or.inr ⟨⟨z1, z3⟩, Or.inr ⟨(fun q => c13 q.2.2), rfl, by rw [ef16, ef15, ef14]; (try simp only [wd_uu]); try rfl⟩⟩⟩)
                · skip
                  refine lv_iconst (v := 0) hx hb d_ClerkRows_office_60 (by decide) ?_
                  exact ret _ _ _ _ _ _ d_ClerkRows_office_61 hw (Or.inr ⟨j, hj, hxj, Or.inr ⟨⟨z1, z3⟩, Or.inl ⟨⟨c5, c9, c13⟩, rfl, rfl⟩⟩⟩)
          · exact absurd c4 (by decide)
        · skip
          refine lv_if_ne (tgt := 34) hx hb d_ClerkRows_office_28 (by decide) (fun c17 => ?_) (fun c17 => ?_)
          · exact absurd c17 (by decide)
          · skip
            refine lv_bipush (v := (-102)) hx hb d_ClerkRows_office_31 (by decide) ?_
            exact ret _ _ _ _ _ _ d_ClerkRows_office_33 hw (Or.inr ⟨j, hj, hxj, Or.inl ⟨(fun q => z3 q.2), rfl, rfl⟩⟩)
    · skip
      refine lv_if_eq (tgt := 31) hx hb d_ClerkRows_office_20 (by decide) (fun c18 => ?_) (fun c18 => ?_)
      · skip
        refine lv_bipush (v := (-102)) hx hb d_ClerkRows_office_31 (by decide) ?_
        exact ret _ _ _ _ _ _ d_ClerkRows_office_33 hw (Or.inr ⟨j, hj, hxj, Or.inl ⟨(fun q => z1 q.1), rfl, rfl⟩⟩)
      · exact absurd c18 (by decide)
  · skip
    subst hz
    refine lv_astoreN (lv' := [(4, .null), (0, .ref a), (1, .int x), (2, .int of), (3, .int sk)]) hx hb d_ClerkRows_office_5 hl (by decide) rfl (fun ls hl => ?_)
    refine lv_aloadN hx hb d_ClerkRows_office_7 (lv_at hl 0 rfl) ?_
    refine lv_ifnonnullN hx hb d_ClerkRows_office_9 ?_
    refine lv_bipush (v := (-101)) hx hb d_ClerkRows_office_12 (by decide) ?_
    exact ret _ _ _ _ _ _ d_ClerkRows_office_14 hw (Or.inl ⟨no_K nxj, rfl, rfl⟩)

abbrev rm_ClerkRows_leave : Room := { frames := 1, cells := 0, slots := 0, locals := 21 }
set_option maxHeartbeats 4000000 in
set_option maxRecDepth 100000 in
theorem c_ClerkRows_leave {l : Launch} {D : va_G} {ca : Nat → ClassId} {f : wd_M} {sz : Nat} (a : Nat) (mo : Int32) (pa ka : Nat) (md : Int32) (nw : Int64) (lt : Int32) (ha : f a = some (eR mo pa ka md nw lt)) (gk : Nat → Option Nat) (K : Nat → KT) (hgk : f ka = some (eA (ca 1) 20 gk)) (hrk : rk f gk K) (hT : ∀ j : Nat, j < 20 → ∀ q : Nat, kTu (K j) = some q → ∃ (pn ck to : Int32) (ea : Option Nat) (te : Int32), f q = some (eT pn ck to ea te)) (x : Int32) : Met l y_ClerkRows_leave (.code y_ClerkRows_leave b_ClerkRows_leave 4 (some .int) :: tb) rm_ClerkRows_leave (va_Pc [.ref a, .int x] (wd_preZ D classes (ty ca) f sz)) (va_Qi (fun r f' => ((∀ j : Nat, j < 20 → x ≠ nI j) ∧ r = -101 ∧ f' = f) ∨ ∃ j : Nat, j < 20 ∧ x = nI j ∧ ((kIn (K j) = 0 ∧ r = -103 ∧ f' = f) ∨ (¬ kIn (K j) = 0 ∧ ((kTu (K j) = none ∧ r = 0 ∧ f' = wd_up f (kAd (K j)) (eK (nI j) 0 (kOf (K j)) (kSk (K j)) none)) ∨ ∃ (q : Nat) (pn ck to : Int32) (ea : Option Nat) (te : Int32), kTu (K j) = some q ∧ f q = some (eT pn ck to ea te) ∧ r = 1 ∧ f' = wd_up (wd_up f q (eT pn ck to ea (-2))) (kAd (K j)) (eK (nI j) 0 (kOf (K j)) (kSk (K j)) none))))) (wd_B D classes f sz) (wd_A f sz)) 0 0 (wd_A f sz) := by
  refine wd_Qi (own := R_ClerkRows) (by decide) rfl (Nat.le_of_ble_eq_true rfl) ?_
  intro p e s m args below meth c Q X hK hw ret ls hl
  have hx := X.1
  have hb := X.2.1
  have hown := X.2.2.2.1
  have hts := X.2.2.2.2
  have hl : lv_has ls 4 [(0, .ref a), (1, .int x)] := hl
  refine lv_aload_n hx hb d_ClerkRows_leave_0 rfl (lv_at hl 0 rfl) ?_
  refine lv_iload_n hx hb d_ClerkRows_leave_1 rfl (lv_at hl 1 rfl) ?_
  refine wd_cvq (As := [.int x]) (rest := []) X hK hw (c_ClerkRows_findClerk a mo pa ka md nw lt ha gk hgk x) (cw_ClerkRows_62 hts rfl rfl ⟨(Nat.le_of_ble_eq_true rfl), (Nat.le_of_ble_eq_true rfl)⟩) ha rfl rfl rfl hl.1 rfl (Nat.le_of_ble_eq_true rfl) d_ClerkRows_leave_2 ⟨(Nat.le_of_ble_eq_true rfl), (Nat.le_of_ble_eq_true rfl)⟩ (fun r hz => ?_)
  rcases hz with ⟨j, hj, hxj, hz⟩ | ⟨nxj, hz⟩
  · skip
    rw [(hrk j hj).1] at hz
    subst hz
    have hkj : f (kAd (K j)) = some (eJ (nI j) (K j)) := (hrk j hj).2
    refine lv_astore_n (lv' := [(2, .ref (kAd (K j))), (0, .ref a), (1, .int x)]) hx hb d_ClerkRows_leave_5 rfl hl (by decide) rfl (fun ls hl => ?_)
    refine lv_aload_n hx hb d_ClerkRows_leave_6 rfl (lv_at hl 0 rfl) ?_
    refine lv_ifnonnull (tgt := 13) hx hb d_ClerkRows_leave_7 (by decide) ?_
    refine lv_aload_n hx hb d_ClerkRows_leave_13 rfl (lv_at hl 0 rfl) ?_
    refine fg_ClerkRows_66 X hK hw hkj d_ClerkRows_leave_14 ?_
    refine lv_if_ne (tgt := 23) hx hb d_ClerkRows_leave_17 (by decide) (fun c1 => ?_) (fun c1 => ?_)
    · skip
      rcases htu : kTu (K j) with _ | tq
      · skip
        have hkj : f (kAd (K j)) = some (eK (nI j) (kIn (K j)) (kOf (K j)) (kSk (K j)) none) := by rw [← htu]; exact hkj
        refine lv_aload_n hx hb d_ClerkRows_leave_23 rfl (lv_at hl 0 rfl) ?_
        refine lv_iconst (v := 0) hx hb d_ClerkRows_leave_24 (by decide) ?_
        refine fp_ClerkRows_66 X hK hw hkj rfl rfl d_ClerkRows_leave_25 (fun f2 H locs ef2 hw => ?_)
        have ha : f2 a = some (eR mo pa ka md nw lt) := by rw [ef2, wd_un (wd_ne ha hkj (by decide))]; exact ha
        have hgk : f2 ka = some (eA (ca 1) 20 gk) := by rw [ef2, wd_un (Ne.symm (wd_neA hkj hgk))]; exact hgk
        have hkj : f2 (kAd (K j)) = some (eK (nI j) 0 (kOf (K j)) (kSk (K j)) none) := by rw [ef2]; exact wd_us
        refine lv_aload_n hx hb d_ClerkRows_leave_28 rfl (lv_at hl 0 rfl) ?_
        refine fg_ClerkRows_70 X hK hw hkj d_ClerkRows_leave_29 ?_
        refine lv_astore_nN (lv' := [(3, .null), (2, .ref (kAd (K j))), (0, .ref a), (1, .int x)]) hx hb d_ClerkRows_leave_32 rfl hl (by decide) rfl (fun ls hl => ?_)
        refine lv_aload_nN hx hb d_ClerkRows_leave_33 rfl (lv_at hl 0 rfl) ?_
        refine lv_ifnonnullN hx hb d_ClerkRows_leave_34 ?_
        refine lv_iconst (v := 0) hx hb d_ClerkRows_leave_37 (by decide) ?_
        exact ret _ _ _ _ _ _ d_ClerkRows_leave_38 hw (Or.inr ⟨j, hj, hxj, Or.inr ⟨c1, Or.inl ⟨htu, rfl, ef2⟩⟩⟩)
      · skip
        obtain ⟨pn, ck, to, ea, te, ht⟩ := hT j hj tq htu
        have ht0 := ht
        have hkj : f (kAd (K j)) = some (eK (nI j) (kIn (K j)) (kOf (K j)) (kSk (K j)) (some tq)) := by rw [← htu]; exact hkj
        refine lv_aload_n hx hb d_ClerkRows_leave_23 rfl (lv_at hl 0 rfl) ?_
        refine lv_iconst (v := 0) hx hb d_ClerkRows_leave_24 (by decide) ?_
        refine fp_ClerkRows_66 X hK hw hkj rfl rfl d_ClerkRows_leave_25 (fun f3 H locs ef3 hw => ?_)
        have ha : f3 a = some (eR mo pa ka md nw lt) := by rw [ef3, wd_un (wd_ne ha hkj (by decide))]; exact ha
        have hgk : f3 ka = some (eA (ca 1) 20 gk) := by rw [ef3, wd_un (Ne.symm (wd_neA hkj hgk))]; exact hgk
        have ht : f3 tq = some (eT pn ck to ea te) := by rw [ef3, wd_un (wd_ne ht hkj (by decide))]; exact ht
        have hkj : f3 (kAd (K j)) = some (eK (nI j) 0 (kOf (K j)) (kSk (K j)) (some tq)) := by rw [ef3]; exact wd_us
        refine lv_aload_n hx hb d_ClerkRows_leave_28 rfl (lv_at hl 0 rfl) ?_
        refine fg_ClerkRows_70 X hK hw hkj d_ClerkRows_leave_29 ?_
        refine lv_astore_n (lv' := [(3, .ref tq), (2, .ref (kAd (K j))), (0, .ref a), (1, .int x)]) hx hb d_ClerkRows_leave_32 rfl hl (by decide) rfl (fun ls hl => ?_)
        refine lv_aload_n hx hb d_ClerkRows_leave_33 rfl (lv_at hl 0 rfl) ?_
        refine lv_ifnonnull (tgt := 39) hx hb d_ClerkRows_leave_34 (by decide) ?_
        refine lv_aload_n hx hb d_ClerkRows_leave_39 rfl (lv_at hl 0 rfl) ?_
        refine lv_bipush (v := (-2)) hx hb d_ClerkRows_leave_40 (by decide) ?_
        refine fp_ClerkRows_111 X hK hw ht rfl rfl d_ClerkRows_leave_42 (fun f4 H locs ef4 hw => ?_)
        have ha : f4 a = some (eR mo pa ka md nw lt) := by rw [ef4, wd_un (wd_ne ha ht (by decide))]; exact ha
        have hgk : f4 ka = some (eA (ca 1) 20 gk) := by rw [ef4, wd_un (Ne.symm (wd_neA ht hgk))]; exact hgk
        have hkj : f4 (kAd (K j)) = some (eK (nI j) 0 (kOf (K j)) (kSk (K j)) (some tq)) := by rw [ef4, wd_un (wd_ne hkj ht (by decide))]; exact hkj
        have ht : f4 tq = some (eT pn ck to ea (-2)) := by rw [ef4]; exact wd_us
        refine lv_aload_n hx hb d_ClerkRows_leave_45 rfl (lv_at hl 1 rfl) ?_
        refine lv_null hx hb d_ClerkRows_leave_46 ?_
        refine fp_ClerkRows_70 X hK hw hkj rfl rfl d_ClerkRows_leave_47 (fun f5 H locs ef5 hw => ?_)
        have ha : f5 a = some (eR mo pa ka md nw lt) := by rw [ef5, wd_un (wd_ne ha hkj (by decide))]; exact ha
        have hgk : f5 ka = some (eA (ca 1) 20 gk) := by rw [ef5, wd_un (Ne.symm (wd_neA hkj hgk))]; exact hgk
        have ht : f5 tq = some (eT pn ck to ea (-2)) := by rw [ef5, wd_un (wd_ne ht hkj (by decide))]; exact ht
        have hkj : f5 (kAd (K j)) = some (eK (nI j) 0 (kOf (K j)) (kSk (K j)) none) := by rw [ef5]; exact wd_us
        refine lv_iconst (v := 1) hx hb d_ClerkRows_leave_50 (by decide) ?_
        exact ret _ _ _ _ _ _ d_ClerkRows_leave_51 hw (Or.inr ⟨j, hj, hxj, Or.inr ⟨c1, Or.inr ⟨tq, pn, ck, to, ea, te, htu, ht0, rfl, by rw [ef5, ef4, ef3]; exact wd_u3⟩⟩⟩)
    · skip
      refine lv_bipush (v := (-103)) hx hb d_ClerkRows_leave_20 (by decide) ?_
      exact ret _ _ _ _ _ _ d_ClerkRows_leave_22 hw (Or.inr ⟨j, hj, hxj, Or.inl ⟨c1, rfl, rfl⟩⟩)
  · skip
    subst hz
    refine lv_astore_nN (lv' := [(2, .null), (0, .ref a), (1, .int x)]) hx hb d_ClerkRows_leave_5 rfl hl (by decide) rfl (fun ls hl => ?_)
    refine lv_aload_nN hx hb d_ClerkRows_leave_6 rfl (lv_at hl 0 rfl) ?_
    refine lv_ifnonnullN hx hb d_ClerkRows_leave_7 ?_
    refine lv_bipush (v := (-101)) hx hb d_ClerkRows_leave_10 (by decide) ?_
    exact ret _ _ _ _ _ _ d_ClerkRows_leave_12 hw (Or.inl ⟨no_K nxj, rfl, rfl⟩)

abbrev rm_ClerkRows_tick : Room := { frames := 2, cells := 0, slots := 0, locals := 46 }
set_option maxHeartbeats 4000000 in
set_option maxRecDepth 100000 in
theorem c_ClerkRows_tick {l : Launch} {D : va_G} {ca : Nat → ClassId} {f : wd_M} {sz : Nat} (a : Nat) (mo : Int32) (pa ka : Nat) (md : Int32) (nw : Int64) (lt : Int32) (ha : f a = some (eR mo pa ka md nw lt)) (gp : Nat → Option Nat) (hg : f pa = some (eA (ca 0) 300 gp)) (n : Nat) (P : Nat → PT) (hr : rp f gp n P) (t : Int64) : Met l y_ClerkRows_tick (.code y_ClerkRows_tick b_ClerkRows_tick 4 (some .int) :: tb) rm_ClerkRows_tick (va_Pc [.ref a, .long t] (wd_preZ D classes (ty ca) f sz)) (va_Qi (fun r f' => (¬ isT nw t ∧ r = -102 ∧ f' = f) ∨ (isT nw t ∧ ∃ f1 : wd_M, f1 a = some (eR mo pa ka md t (lt + nI (cL t P n))) ∧ f1 pa = some (eA (ca 0) 300 gp) ∧ rp f1 gp n (pst t P n) ∧ (∀ q : Nat, q ≠ a → (∀ j : Nat, j < n → q ≠ pAd (P j)) → f1 q = f q) ∧ r = lt + nI (cL t P n) ∧ f' = wd_up f1 a (eR mo pa ka md t 0))) (wd_B D classes f sz) (wd_A f sz)) 0 0 (wd_A f sz) := by
  refine wd_Qi (own := R_ClerkRows) (by decide) rfl (Nat.le_of_ble_eq_true rfl) ?_
  intro p e s m args below meth c Q X hK hw ret ls hl
  have hx := X.1
  have hb := X.2.1
  have hown := X.2.2.2.1
  have hts := X.2.2.2.2
  have hl : lv_has ls 4 [(0, .ref a), (1, .long t)] := hl
  refine lv_aload_n hx hb d_ClerkRows_tick_0 rfl (lv_at hl 0 rfl) ?_
  refine lv_lload_n hx hb d_ClerkRows_tick_1 rfl (lv_at hl 1 rfl) ?_
  refine wd_cvi (As := [.long t]) (rest := []) X hK hw (c_ClerkRows_isTime a mo pa ka md nw lt ha t) (cw_ClerkRows_47 hts rfl rfl ⟨(Nat.le_of_ble_eq_true rfl), (Nat.le_of_ble_eq_true rfl)⟩) ha rfl rfl rfl hl.1 rfl (Nat.le_of_ble_eq_true rfl) d_ClerkRows_tick_2 ⟨(Nat.le_of_ble_eq_true rfl), (Nat.le_of_ble_eq_true rfl)⟩ (fun r hz => ?_)
  rcases hz with ⟨z1, rfl⟩ | ⟨z1, rfl⟩
  · skip
    refine lv_if_ne (tgt := 11) hx hb d_ClerkRows_tick_5 (by decide) (fun c2 => ?_) (fun c2 => ?_)
    · skip
      refine lv_aload_n hx hb d_ClerkRows_tick_11 rfl (lv_at hl 0 rfl) ?_
      refine lv_lload_n hx hb d_ClerkRows_tick_12 rfl (lv_at hl 1 rfl) ?_
      refine wd_mvv (As := [.long t]) (rest := []) X hK hw (c_ClerkRows_passTo a mo pa ka md nw lt ha gp hg n P hr t) (cw_ClerkRows_74 hts rfl rfl ⟨(Nat.le_of_ble_eq_true rfl), (Nat.le_of_ble_eq_true rfl)⟩) ha rfl rfl rfl hl.1 rfl (Nat.le_of_ble_eq_true rfl) d_ClerkRows_tick_13 ⟨(Nat.le_of_ble_eq_true rfl), (Nat.le_of_ble_eq_true rfl)⟩ (fun f3 H locs hz hw => ?_)
      obtain ⟨ha1, hg1, hr1, hk1⟩ := hz
      have ha10 := ha1
      have hg10 := hg1
      refine lv_aload_n hx hb d_ClerkRows_tick_16 rfl (lv_at hl 0 rfl) ?_
      refine fg_ClerkRows_29 X hK hw ha1 d_ClerkRows_tick_17 ?_
      refine lv_istore_n (lv' := [(3, .int (lt + nI (cL t P n))), (0, .ref a), (1, .long t)]) hx hb d_ClerkRows_tick_20 rfl hl (by decide) rfl (fun ls hl => ?_)
      refine lv_aload_n hx hb d_ClerkRows_tick_21 rfl (lv_at hl 1 rfl) ?_
      refine lv_iconst (v := 0) hx hb d_ClerkRows_tick_22 (by decide) ?_
      refine fp_ClerkRows_29 X hK hw ha1 rfl rfl d_ClerkRows_tick_23 (fun f4 H locs ef4 hw => ?_)
      have hg1 : f4 pa = some (eA (ca 0) 300 gp) := by rw [ef4, wd_un (Ne.symm (wd_neA ha1 hg1))]; exact hg1
      have ha1 : f4 a = some (eR mo pa ka md t 0) := by rw [ef4]; exact wd_us
      refine lv_iload_n hx hb d_ClerkRows_tick_26 rfl (lv_at hl 0 rfl) ?_
      exact ret _ _ _ _ _ _ d_ClerkRows_tick_27 hw (Or.inr ⟨z1, _, ha10, hg10, hr1, hk1, rfl, ef4⟩)
    · exact absurd c2 (by decide)
  · skip
    refine lv_if_ne (tgt := 11) hx hb d_ClerkRows_tick_5 (by decide) (fun c5 => ?_) (fun c5 => ?_)
    · exact absurd c5 (by decide)
    · skip
      refine lv_bipush (v := (-102)) hx hb d_ClerkRows_tick_8 (by decide) ?_
      exact ret _ _ _ _ _ _ d_ClerkRows_tick_10 hw (Or.inl ⟨z1, rfl, rfl⟩)

