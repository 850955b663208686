abbrev rm_ClerkRows_waiting : Room := { frames := 1, cells := 0, slots := 0, locals := 20 }
set_option maxHeartbeats 4000000 in
set_option maxRecDepth 100000 in
theorem c_ClerkRows_waiting {l : Launch} {D : va_G} {ca : Nat → ClassId} {f : wd_M} (a : Nat) (mo : Int32) (pa ka : Nat) (md : Int32) (nw : Int64) (lt : Int32) (ha : f a = some (eR mo pa ka md nw lt)) (gp : Nat → Option Nat) (hg : f pa = some (eA (ca 0) 300 gp)) (n : Nat) (P : Nat → PT) (hr : rp f gp n P) : Met l y_ClerkRows_waiting (.code y_ClerkRows_waiting b_ClerkRows_waiting 6 (some .int) :: tb) rm_ClerkRows_waiting (va_Pc [.ref a] (wd_pre D classes (ty ca) f)) (vp_Si (fun r => r = nI (cW P n))) 0 0 (fun _ => False) := by
  refine wd_Si (own := R_ClerkRows) (by decide) rfl (Nat.le_of_ble_eq_true rfl) ?_
  intro p e s m args below meth c Q X hK hw ret ls hl
  have hx := X.1
  have hb := X.2.1
  have hown := X.2.2.2.1
  have hts := X.2.2.2.2
  have hl : lv_has ls 6 [(0, .ref a)] := hl
  refine lv_iconst (v := 0) hx hb d_ClerkRows_waiting_0 (by decide) ?_
  refine lv_istore_n (lv' := [(1, .int 0), (0, .ref a)]) hx hb d_ClerkRows_waiting_1 rfl hl (by decide) rfl (fun ls hl => ?_)
  refine lv_aload_n hx hb d_ClerkRows_waiting_2 rfl (lv_at hl 1 rfl) ?_
  refine fg_ClerkRows_11 X hK hw ha d_ClerkRows_waiting_3 ?_
  refine lv_astore_n (lv' := [(2, .ref pa), (1, .int 0), (0, .ref a)]) hx hb d_ClerkRows_waiting_6 rfl hl (by decide) rfl (fun ls hl => ?_)
  refine lv_aload_n hx hb d_ClerkRows_waiting_7 rfl (lv_at hl 0 rfl) ?_
  refine wd_alen X hK hw hg 0 rfl (v := nI 300) rfl d_ClerkRows_waiting_8 ?_
  refine lv_istore_n (lv' := [(3, .int (nI 300)), (2, .ref pa), (1, .int 0), (0, .ref a)]) hx hb d_ClerkRows_waiting_9 rfl hl (by decide) rfl (fun ls hl => ?_)
  refine lv_iconst (v := 0) hx hb d_ClerkRows_waiting_10 (by decide) ?_
  refine lv_istore (lv' := [(4, .int 0), (3, .int (nI 300)), (2, .ref pa), (1, .int 0), (0, .ref a)]) hx hb d_ClerkRows_waiting_11 hl (by decide) rfl (fun ls hl => ?_)
  have loop : ∀ (d i : Nat) (k : Nat) (ls : Array Slot), n = i + d → k = cW P i → lv_has ls 6 [(4, .int (nI i)), (1, .int (nI k)), (2, .ref pa), (3, .int (nI 300)), (0, .ref a)] → W p l e rm_ClerkRows_waiting s m args below meth c s.heap [] 0 0 Q (F0 m 13 ls []) := by
    intro d
    induction d with
    | zero =>
      intro i k ls hd hk hl
      have hin : i = n := by omega
      rcases Nat.lt_or_ge i 300 with h3 | h3
      · skip
        refine lv_iload hx hb d_ClerkRows_waiting_13 (lv_at hl 0 rfl) ?_
        refine lv_iload_n hx hb d_ClerkRows_waiting_15 rfl (lv_at hl 3 rfl) ?_
        refine lv_icmp_ge (tgt := 50) hx hb d_ClerkRows_waiting_16 (by decide) (fun c => absurd c (nI_ge h3 (by decide))) (fun _ => ?_)
        refine lv_aload_n hx hb d_ClerkRows_waiting_19 rfl (lv_at hl 2 rfl) ?_
        refine lv_iload hx hb d_ClerkRows_waiting_20 (lv_at hl 0 rfl) ?_
        refine wd_aldN X hK hw hg 0 rfl h3 (by decide) (hr.2.2 i (Nat.le_of_eq hin.symm)) d_ClerkRows_waiting_22 ?_
        refine lv_astoreN (lv' := [(5, .null), (4, .int (nI i)), (1, .int (nI k)), (2, .ref pa), (3, .int (nI 300)), (0, .ref a)]) hx hb d_ClerkRows_waiting_23 hl (by decide) rfl (fun ls hl => ?_)
        refine lv_aloadN hx hb d_ClerkRows_waiting_25 (lv_at hl 0 rfl) ?_
        refine lv_ifnonnullN hx hb d_ClerkRows_waiting_27 ?_
        refine lv_goto (tgt := 50) hx hb d_ClerkRows_waiting_30 (by decide) ?_
        refine lv_iload_n hx hb d_ClerkRows_waiting_50 rfl (lv_at hl 2 rfl) ?_
        exact ret _ _ _ d_ClerkRows_waiting_51 (by rw [hk, hin])
      · skip
        refine lv_iload hx hb d_ClerkRows_waiting_13 (lv_at hl 0 rfl) ?_
        refine lv_iload_n hx hb d_ClerkRows_waiting_15 rfl (lv_at hl 3 rfl) ?_
        refine lv_icmp_ge (tgt := 50) hx hb d_ClerkRows_waiting_16 (by decide) (fun _ => ?_) (fun c => absurd (nI_le h3 (by rw [hin]; exact Nat.lt_of_le_of_lt hr.1 (by decide))) c)
        refine lv_iload_n hx hb d_ClerkRows_waiting_50 rfl (lv_at hl 1 rfl) ?_
        exact ret _ _ _ d_ClerkRows_waiting_51 (by rw [hk, hin])
    | succ d ih =>
      intro i k ls hd hk hl
      have hin : i < n := by omega
      have h3 : i < 300 := Nat.lt_of_lt_of_le hin hr.1
      obtain ⟨hgi, la, hpi, hci⟩ := hr.2.1 i hin
      refine lv_iload hx hb d_ClerkRows_waiting_13 (lv_at hl 0 rfl) ?_
      refine lv_iload_n hx hb d_ClerkRows_waiting_15 rfl (lv_at hl 3 rfl) ?_
      refine lv_icmp_ge (tgt := 50) hx hb d_ClerkRows_waiting_16 (by decide) (fun c => absurd c (nI_ge h3 (by decide))) (fun _ => ?_)
      refine lv_aload_n hx hb d_ClerkRows_waiting_19 rfl (lv_at hl 2 rfl) ?_
      refine lv_iload hx hb d_ClerkRows_waiting_20 (lv_at hl 0 rfl) ?_
      refine wd_aldS X hK hw hg 0 rfl h3 (by decide) hgi d_ClerkRows_waiting_22 ?_
      refine lv_astore (lv' := [(5, .ref (pAd (P i))), (4, .int (nI i)), (1, .int (nI k)), (2, .ref pa), (3, .int (nI 300)), (0, .ref a)]) hx hb d_ClerkRows_waiting_23 hl (by decide) rfl (fun ls hl => ?_)
      refine lv_aload hx hb d_ClerkRows_waiting_25 (lv_at hl 0 rfl) ?_
      refine lv_ifnonnull (tgt := 33) hx hb d_ClerkRows_waiting_27 (by decide) ?_
      refine lv_aload hx hb d_ClerkRows_waiting_33 (lv_at hl 0 rfl) ?_
      refine wd_cvi (As := []) (rest := []) X hK hw (c_Picture_hasEnded (pAd (P i)) (nI (i + 1)) (pDu (P i)) (pSk (P i)) (pWa (P i)) (pAn (P i)) (pEn (P i)) (pSw (P i)) la hpi) (cw_ClerkRows_114 hts rfl rfl ⟨(Nat.le_of_ble_eq_true rfl), (Nat.le_of_ble_eq_true rfl)⟩) hpi rfl rfl rfl hl.1 rfl (Nat.le_of_ble_eq_true rfl) d_ClerkRows_waiting_35 ⟨(Nat.le_of_ble_eq_true rfl), (Nat.le_of_ble_eq_true rfl)⟩ (fun r hz => ?_)
      rcases hz with ⟨z1, rfl⟩ | ⟨z1, rfl⟩
      · skip
        refine lv_if_ne (tgt := 44) hx hb d_ClerkRows_waiting_38 (by decide) (fun c2 => ?_) (fun c2 => ?_)
        · skip
          refine lv_iinc (v := ((nI i) + 1)) (lv' := [(4, .int ((nI i) + 1)), (5, .ref (pAd (P i))), (1, .int (nI k)), (2, .ref pa), (3, .int (nI 300)), (0, .ref a)]) hx hb d_ClerkRows_waiting_44 hl (k := 1) rfl rfl (by decide) rfl (fun ls hl => ?_)
          refine lv_goto (tgt := 13) hx hb d_ClerkRows_waiting_47 (by decide) ?_
          exact ih (i + 1) k ls (by omega) (by rw [hk]; simp only [cW, if_neg z1]) (by rw [nI_succ i]; exact lv_sub hl [0, 2, 3, 4, 5] rfl)
        · exact absurd c2 (by decide)
      · skip
        refine lv_if_ne (tgt := 44) hx hb d_ClerkRows_waiting_38 (by decide) (fun c3 => ?_) (fun c3 => ?_)
        · exact absurd c3 (by decide)
        · skip
          refine lv_iinc (v := ((nI k) + 1)) (lv' := [(1, .int ((nI k) + 1)), (5, .ref (pAd (P i))), (4, .int (nI i)), (2, .ref pa), (3, .int (nI 300)), (0, .ref a)]) hx hb d_ClerkRows_waiting_41 hl (k := 2) rfl rfl (by decide) rfl (fun ls hl => ?_)
          refine lv_iinc (v := ((nI i) + 1)) (lv' := [(4, .int ((nI i) + 1)), (1, .int ((nI k) + 1)), (5, .ref (pAd (P i))), (2, .ref pa), (3, .int (nI 300)), (0, .ref a)]) hx hb d_ClerkRows_waiting_44 hl (k := 2) rfl rfl (by decide) rfl (fun ls hl => ?_)
          refine lv_goto (tgt := 13) hx hb d_ClerkRows_waiting_47 (by decide) ?_
          exact ih (i + 1) (k + 1) ls (by omega) (by rw [hk]; simp only [cW, if_pos (Decidable.not_not.mp z1)]) (by rw [nI_succ i, nI_succ k]; exact lv_sub hl [0, 1, 3, 4, 5] rfl)
  exact loop n 0 0 ls (Nat.zero_add n).symm rfl (lv_sub hl [0, 3, 2, 1, 4] rfl)

abbrev rm_ClerkRows_findGiven : Room := { frames := 2, cells := 0, slots := 0, locals := 44 }
set_option maxHeartbeats 4000000 in
set_option maxRecDepth 100000 in
theorem c_ClerkRows_findGiven {l : Launch} {D : va_G} {ca : Nat → ClassId} {f : wd_M} (a : Nat) (mo : Int32) (pa ka : Nat) (md : Int32) (nw : Int64) (lt : Int32) (ha : f a = some (eR mo pa ka md nw lt)) (gp : Nat → Option Nat) (hg : f pa = some (eA (ca 0) 300 gp)) (n : Nat) (P : Nat → PT) (hr : rp f gp n P) (b : Nat) (kn ki ko ks : Int32) (kt : Option Nat) (hk : f b = some (eK kn ki ko ks kt)) : Met l y_ClerkRows_findGiven (.code y_ClerkRows_findGiven b_ClerkRows_findGiven 7 (some (.object "ClerkRows$Picture")) :: tb) rm_ClerkRows_findGiven (va_Pc [.ref a, .ref b] (wd_pre D classes (ty ca) f)) (va_Sq (fun r => r = (gvn P kn ko ks n).map (fun j => pAd (P j)))) 0 0 (fun _ => False) := by
  refine wd_Sq (own := R_ClerkRows) (by decide) rfl (Nat.le_of_ble_eq_true rfl) ?_
  intro p e s m args below meth c Q X hK hw ret ls hl
  have hx := X.1
  have hb := X.2.1
  have hown := X.2.2.2.1
  have hts := X.2.2.2.2
  have hl : lv_has ls 7 [(0, .ref a), (1, .ref b)] := hl
  refine lv_null hx hb d_ClerkRows_findGiven_0 ?_
  refine lv_astore_nN (lv' := [(2, .null), (0, .ref a), (1, .ref b)]) hx hb d_ClerkRows_findGiven_1 rfl hl (by decide) rfl (fun ls hl => ?_)
  refine lv_aload_n hx hb d_ClerkRows_findGiven_2 rfl (lv_at hl 1 rfl) ?_
  refine fg_ClerkRows_11 X hK hw ha d_ClerkRows_findGiven_3 ?_
  refine lv_astore_n (lv' := [(3, .ref pa), (2, .null), (0, .ref a), (1, .ref b)]) hx hb d_ClerkRows_findGiven_6 rfl hl (by decide) rfl (fun ls hl => ?_)
  refine lv_aload_n hx hb d_ClerkRows_findGiven_7 rfl (lv_at hl 0 rfl) ?_
  refine wd_alen X hK hw hg 0 rfl (v := nI 300) rfl d_ClerkRows_findGiven_8 ?_
  refine lv_istore (lv' := [(4, .int (nI 300)), (3, .ref pa), (2, .null), (0, .ref a), (1, .ref b)]) hx hb d_ClerkRows_findGiven_9 hl (by decide) rfl (fun ls hl => ?_)
  refine lv_iconst (v := 0) hx hb d_ClerkRows_findGiven_11 (by decide) ?_
  refine lv_istore (lv' := [(5, .int 0), (4, .int (nI 300)), (3, .ref pa), (2, .null), (0, .ref a), (1, .ref b)]) hx hb d_ClerkRows_findGiven_12 hl (by decide) rfl (fun ls hl => ?_)
  have loop : ∀ (d i : Nat) (bi : Option Nat) (ls : Array Slot), n = i + d → bi = gvn P kn ko ks i → (∀ b, bi = some b → b < i) → lv_has ls 7 [(5, .int (nI i)), (2, va_rf (bi.map (fun j => pAd (P j)))), (3, .ref pa), (4, .int (nI 300)), (1, .ref b), (0, .ref a)] → W p l e rm_ClerkRows_findGiven s m args below meth c s.heap [] 0 0 Q (F0 m 14 ls []) := by
    intro d
    induction d with
    | zero =>
      intro i bi ls hd hbi hlt hl
      have hin : i = n := by omega
      rcases Nat.lt_or_ge i 300 with h3 | h3
      · skip
        refine lv_iload hx hb d_ClerkRows_findGiven_14 (lv_at hl 0 rfl) ?_
        refine lv_iload hx hb d_ClerkRows_findGiven_16 (lv_at hl 3 rfl) ?_
        refine lv_icmp_ge (tgt := 70) hx hb d_ClerkRows_findGiven_18 (by decide) (fun c => absurd c (nI_ge h3 (by decide))) (fun _ => ?_)
        refine lv_aload_n hx hb d_ClerkRows_findGiven_21 rfl (lv_at hl 2 rfl) ?_
        refine lv_iload hx hb d_ClerkRows_findGiven_22 (lv_at hl 0 rfl) ?_
        refine wd_aldN X hK hw hg 0 rfl h3 (by decide) (hr.2.2 i (Nat.le_of_eq hin.symm)) d_ClerkRows_findGiven_24 ?_
        refine lv_astoreN (lv' := [(6, .null), (5, .int (nI i)), (2, va_rf (bi.map (fun j => pAd (P j)))), (3, .ref pa), (4, .int (nI 300)), (1, .ref b), (0, .ref a)]) hx hb d_ClerkRows_findGiven_25 hl (by decide) rfl (fun ls hl => ?_)
        refine lv_aloadN hx hb d_ClerkRows_findGiven_27 (lv_at hl 0 rfl) ?_
        refine lv_ifnonnullN hx hb d_ClerkRows_findGiven_29 ?_
        refine lv_goto (tgt := 70) hx hb d_ClerkRows_findGiven_32 (by decide) ?_
        refine wd_aload_n hx hb d_ClerkRows_findGiven_70 rfl (lv_at hl 2 rfl) ?_
        exact ret _ _ (bi.map (fun j => pAd (P j))) _ d_ClerkRows_findGiven_71 rfl (by rw [← hin, ← hbi])
      · skip
        refine lv_iload hx hb d_ClerkRows_findGiven_14 (lv_at hl 0 rfl) ?_
        refine lv_iload hx hb d_ClerkRows_findGiven_16 (lv_at hl 3 rfl) ?_
        refine lv_icmp_ge (tgt := 70) hx hb d_ClerkRows_findGiven_18 (by decide) (fun _ => ?_) (fun c => absurd (nI_le h3 (by rw [hin]; exact Nat.lt_of_le_of_lt hr.1 (by decide))) c)
        refine wd_aload_n hx hb d_ClerkRows_findGiven_70 rfl (lv_at hl 1 rfl) ?_
        exact ret _ _ (bi.map (fun j => pAd (P j))) _ d_ClerkRows_findGiven_71 rfl (by rw [← hin, ← hbi])
    | succ d ih =>
      intro i bi ls hd hbi hlt hl
      have hin : i < n := by omega
      have h3 : i < 300 := Nat.lt_of_lt_of_le hin hr.1
      obtain ⟨hgi, la, hpi, hci⟩ := hr.2.1 i hin
      refine lv_iload hx hb d_ClerkRows_findGiven_14 (lv_at hl 0 rfl) ?_
      refine lv_iload hx hb d_ClerkRows_findGiven_16 (lv_at hl 3 rfl) ?_
      refine lv_icmp_ge (tgt := 70) hx hb d_ClerkRows_findGiven_18 (by decide) (fun c => absurd c (nI_ge h3 (by decide))) (fun _ => ?_)
      refine lv_aload_n hx hb d_ClerkRows_findGiven_21 rfl (lv_at hl 2 rfl) ?_
      refine lv_iload hx hb d_ClerkRows_findGiven_22 (lv_at hl 0 rfl) ?_
      refine wd_aldS X hK hw hg 0 rfl h3 (by decide) hgi d_ClerkRows_findGiven_24 ?_
      refine lv_astore (lv' := [(6, .ref (pAd (P i))), (5, .int (nI i)), (2, va_rf (bi.map (fun j => pAd (P j)))), (3, .ref pa), (4, .int (nI 300)), (1, .ref b), (0, .ref a)]) hx hb d_ClerkRows_findGiven_25 hl (by decide) rfl (fun ls hl => ?_)
      refine lv_aload hx hb d_ClerkRows_findGiven_27 (lv_at hl 0 rfl) ?_
      refine lv_ifnonnull (tgt := 35) hx hb d_ClerkRows_findGiven_29 (by decide) ?_
      rcases bi with _ | j
      · skip
        have hl : lv_has ls 7 [(6, .ref (pAd (P i))), (5, .int (nI i)), (2, .null), (3, .ref pa), (4, .int (nI 300)), (1, .ref b), (0, .ref a)] := hl
        refine lv_aload_nN hx hb d_ClerkRows_findGiven_35 rfl (lv_at hl 2 rfl) ?_
        refine lv_ifnullN (tgt := 52) hx hb d_ClerkRows_findGiven_36 (by decide) ?_
        refine lv_aload hx hb d_ClerkRows_findGiven_52 (lv_at hl 0 rfl) ?_
        refine lv_aload_n hx hb d_ClerkRows_findGiven_54 rfl (lv_at hl 5 rfl) ?_
        refine wd_cvi (As := [.ref b]) (rest := []) X hK hw (c_Picture_isFreeFor (pAd (P i)) (nI (i + 1)) (pDu (P i)) (pSk (P i)) (pWa (P i)) (pAn (P i)) (pEn (P i)) (pSw (P i)) la hpi b kn ki ko ks kt hk (pL (P i)) hci) (cw_ClerkRows_137 hts rfl rfl ⟨(Nat.le_of_ble_eq_true rfl), (Nat.le_of_ble_eq_true rfl)⟩) hpi rfl rfl rfl hl.1 rfl (Nat.le_of_ble_eq_true rfl) d_ClerkRows_findGiven_55 ⟨(Nat.le_of_ble_eq_true rfl), (Nat.le_of_ble_eq_true rfl)⟩ (fun r hz => ?_)
        rcases hz with ⟨z1, rfl⟩ | ⟨z1, rfl⟩
        · skip
          refine lv_if_eq (tgt := 64) hx hb d_ClerkRows_findGiven_58 (by decide) (fun c2 => ?_) (fun c2 => ?_)
          · exact absurd c2 (by decide)
          · skip
            refine lv_aload hx hb d_ClerkRows_findGiven_61 (lv_at hl 0 rfl) ?_
            refine lv_astore_n (lv' := [(2, .ref (pAd (P i))), (6, .ref (pAd (P i))), (5, .int (nI i)), (3, .ref pa), (4, .int (nI 300)), (1, .ref b), (0, .ref a)]) hx hb d_ClerkRows_findGiven_63 rfl hl (by decide) rfl (fun ls hl => ?_)
            refine lv_iinc (v := ((nI i) + 1)) (lv' := [(5, .int ((nI i) + 1)), (2, .ref (pAd (P i))), (6, .ref (pAd (P i))), (3, .ref pa), (4, .int (nI 300)), (1, .ref b), (0, .ref a)]) hx hb d_ClerkRows_findGiven_64 hl (k := 2) rfl rfl (by decide) rfl (fun ls hl => ?_)
            refine lv_goto (tgt := 14) hx hb d_ClerkRows_findGiven_67 (by decide) ?_
            exact ih (i + 1) (some i) ls (by omega) (gv_nt hbi z1) (fun b hb => by cases hb; exact Nat.lt_succ_self i) (by rw [nI_succ i]; exact lv_sub hl [0, 1, 3, 4, 5, 6] rfl)
        · skip
          refine lv_if_eq (tgt := 64) hx hb d_ClerkRows_findGiven_58 (by decide) (fun c3 => ?_) (fun c3 => ?_)
          · skip
            refine lv_iinc (v := ((nI i) + 1)) (lv' := [(5, .int ((nI i) + 1)), (6, .ref (pAd (P i))), (2, .null), (3, .ref pa), (4, .int (nI 300)), (1, .ref b), (0, .ref a)]) hx hb d_ClerkRows_findGiven_64 hl (k := 1) rfl rfl (by decide) rfl (fun ls hl => ?_)
            refine lv_goto (tgt := 14) hx hb d_ClerkRows_findGiven_67 (by decide) ?_
            exact ih (i + 1) none ls (by omega) (gv_nf hbi z1) (fun b hb => Nat.lt_succ_of_lt (hlt b hb)) (by rw [nI_succ i]; exact lv_sub hl [0, 2, 3, 4, 5, 6] rfl)
          · exact absurd c3 (by decide)
      · skip
        have hjn : j < n := Nat.lt_trans (hlt j rfl) hin
        obtain ⟨-, lj, hpj, -⟩ := hr.2.1 j hjn
        have hl : lv_has ls 7 [(6, .ref (pAd (P i))), (5, .int (nI i)), (2, .ref (pAd (P j))), (3, .ref pa), (4, .int (nI 300)), (1, .ref b), (0, .ref a)] := hl
        refine lv_aload_n hx hb d_ClerkRows_findGiven_35 rfl (lv_at hl 2 rfl) ?_
        refine lv_ifnull hx hb d_ClerkRows_findGiven_36 ?_
        refine lv_aload hx hb d_ClerkRows_findGiven_39 (lv_at hl 0 rfl) ?_
        refine fg_ClerkRows_131 X hK hw hpi d_ClerkRows_findGiven_41 ?_
        refine lv_aload_n hx hb d_ClerkRows_findGiven_44 rfl (lv_at hl 2 rfl) ?_
        refine fg_ClerkRows_131 X hK hw hpj d_ClerkRows_findGiven_45 ?_
        refine W.lcmp hx hb d_ClerkRows_findGiven_48 ?_
        refine lv_if_ge (tgt := 64) hx hb d_ClerkRows_findGiven_49 (by decide) (fun c4 => ?_) (fun c4 => ?_)
        · skip
          refine lv_iinc (v := ((nI i) + 1)) (lv' := [(5, .int ((nI i) + 1)), (6, .ref (pAd (P i))), (2, .ref (pAd (P j))), (3, .ref pa), (4, .int (nI 300)), (1, .ref b), (0, .ref a)]) hx hb d_ClerkRows_findGiven_64 hl (k := 1) rfl rfl (by decide) rfl (fun ls hl => ?_)
          refine lv_goto (tgt := 14) hx hb d_ClerkRows_findGiven_67 (by decide) ?_
          exact ih (i + 1) (some j) ls (by omega) (gv_sd hbi (cmp_ge c4)) (fun b hb => Nat.lt_succ_of_lt (hlt b hb)) (by rw [nI_succ i]; exact lv_sub hl [0, 2, 3, 4, 5, 6] rfl)
        · skip
          refine lv_aload hx hb d_ClerkRows_findGiven_52 (lv_at hl 0 rfl) ?_
          refine lv_aload_n hx hb d_ClerkRows_findGiven_54 rfl (lv_at hl 5 rfl) ?_
          refine wd_cvi (As := [.ref b]) (rest := []) X hK hw (c_Picture_isFreeFor (pAd (P i)) (nI (i + 1)) (pDu (P i)) (pSk (P i)) (pWa (P i)) (pAn (P i)) (pEn (P i)) (pSw (P i)) la hpi b kn ki ko ks kt hk (pL (P i)) hci) (cw_ClerkRows_137 hts rfl rfl ⟨(Nat.le_of_ble_eq_true rfl), (Nat.le_of_ble_eq_true rfl)⟩) hpi rfl rfl rfl hl.1 rfl (Nat.le_of_ble_eq_true rfl) d_ClerkRows_findGiven_55 ⟨(Nat.le_of_ble_eq_true rfl), (Nat.le_of_ble_eq_true rfl)⟩ (fun r hz => ?_)
          rcases hz with ⟨z5, rfl⟩ | ⟨z5, rfl⟩
          · skip
            refine lv_if_eq (tgt := 64) hx hb d_ClerkRows_findGiven_58 (by decide) (fun c6 => ?_) (fun c6 => ?_)
            · exact absurd c6 (by decide)
            · skip
              refine lv_aload hx hb d_ClerkRows_findGiven_61 (lv_at hl 0 rfl) ?_
              refine lv_astore_n (lv' := [(2, .ref (pAd (P i))), (6, .ref (pAd (P i))), (5, .int (nI i)), (3, .ref pa), (4, .int (nI 300)), (1, .ref b), (0, .ref a)]) hx hb d_ClerkRows_findGiven_63 rfl hl (by decide) rfl (fun ls hl => ?_)
              refine lv_iinc (v := ((nI i) + 1)) (lv' := [(5, .int ((nI i) + 1)), (2, .ref (pAd (P i))), (6, .ref (pAd (P i))), (3, .ref pa), (4, .int (nI 300)), (1, .ref b), (0, .ref a)]) hx hb d_ClerkRows_findGiven_64 hl (k := 2) rfl rfl (by decide) rfl (fun ls hl => ?_)
              refine lv_goto (tgt := 14) hx hb d_ClerkRows_findGiven_67 (by decide) ?_
              exact ih (i + 1) (some i) ls (by omega) (gv_st hbi (cmp_nge c4) z5) (fun b hb => by cases hb; exact Nat.lt_succ_self i) (by rw [nI_succ i]; exact lv_sub hl [0, 1, 3, 4, 5, 6] rfl)
          · skip
            refine lv_if_eq (tgt := 64) hx hb d_ClerkRows_findGiven_58 (by decide) (fun c7 => ?_) (fun c7 => ?_)
            · skip
              refine lv_iinc (v := ((nI i) + 1)) (lv' := [(5, .int ((nI i) + 1)), (6, .ref (pAd (P i))), (2, .ref (pAd (P j))), (3, .ref pa), (4, .int (nI 300)), (1, .ref b), (0, .ref a)]) hx hb d_ClerkRows_findGiven_64 hl (k := 1) rfl rfl (by decide) rfl (fun ls hl => ?_)
              refine lv_goto (tgt := 14) hx hb d_ClerkRows_findGiven_67 (by decide) ?_
              exact ih (i + 1) (some j) ls (by omega) (gv_sf hbi z5) (fun b hb => Nat.lt_succ_of_lt (hlt b hb)) (by rw [nI_succ i]; exact lv_sub hl [0, 2, 3, 4, 5, 6] rfl)
            · exact absurd c7 (by decide)
  exact loop n 0 none ls (Nat.zero_add n).symm rfl (fun _ h => by cases h) (lv_sub hl [0, 3, 2, 1, 5, 4] rfl)

abbrev rm_ClerkRows_passTo : Room := { frames := 1, cells := 0, slots := 0, locals := 20 }
set_option maxHeartbeats 4000000 in
set_option maxRecDepth 100000 in
theorem c_ClerkRows_passTo {l : Launch} {D : va_G} {ca : Nat → ClassId} {f : wd_M} {sz : Nat} (a : Nat) (mo : Int32) (pa ka : Nat) (md : Int32) (nw : Int64) (lt : Int32) (ha : f a = some (eR mo pa ka md nw lt)) (gp : Nat → Option Nat) (hg : f pa = some (eA (ca 0) 300 gp)) (n : Nat) (P : Nat → PT) (hr : rp f gp n P) (t : Int64) : Met l y_ClerkRows_passTo (.code y_ClerkRows_passTo b_ClerkRows_passTo 7 none :: tb) rm_ClerkRows_passTo (va_Pc [.ref a, .long t] (wd_preZ D classes (ty ca) f sz)) (va_Qv (fun f' => f' a = some (eR mo pa ka md t (lt + nI (cL t P n))) ∧ f' pa = some (eA (ca 0) 300 gp) ∧ rp f' gp n (pst t P n) ∧ ∀ q : Nat, q ≠ a → (∀ j : Nat, j < n → q ≠ pAd (P j)) → f' q = f q) (wd_B D classes f sz) (wd_A f sz)) 0 0 (wd_A f sz) := by
  refine wd_Qv (own := R_ClerkRows) (by decide) rfl (Nat.le_of_ble_eq_true rfl) ?_
  intro p e s m args below meth c Q X hK hnm hw ret ls hl
  have hx := X.1
  have hb := X.2.1
  have hown := X.2.2.2.1
  have hts := X.2.2.2.2
  have hl : lv_has ls 7 [(0, .ref a), (1, .long t)] := hl
  refine lv_aload_n hx hb d_ClerkRows_passTo_0 rfl (lv_at hl 0 rfl) ?_
  refine lv_lload_n hx hb d_ClerkRows_passTo_1 rfl (lv_at hl 1 rfl) ?_
  have ha0 := ha
  refine fp_ClerkRows_25 X hK hw ha rfl rfl d_ClerkRows_passTo_2 (fun f1 H locs ef1 hw => ?_)
  have hg : f1 pa = some (eA (ca 0) 300 gp) := by rw [ef1, wd_un (Ne.symm (wd_neA ha hg))]; exact hg
  have ha : f1 a = some (eR mo pa ka md t lt) := by rw [ef1]; exact wd_us
  refine lv_aload_n hx hb d_ClerkRows_passTo_5 rfl (lv_at hl 0 rfl) ?_
  refine fg_ClerkRows_11 X hK hw ha d_ClerkRows_passTo_6 ?_
  refine lv_astore_n (lv' := [(3, .ref pa), (0, .ref a), (1, .long t)]) hx hb d_ClerkRows_passTo_9 rfl hl (by decide) rfl (fun ls hl => ?_)
  refine lv_aload_n hx hb d_ClerkRows_passTo_10 rfl (lv_at hl 0 rfl) ?_
  refine wd_alen X hK hw hg 0 rfl (v := nI 300) rfl d_ClerkRows_passTo_11 ?_
  refine lv_istore (lv' := [(4, .int (nI 300)), (3, .ref pa), (0, .ref a), (1, .long t)]) hx hb d_ClerkRows_passTo_12 hl (by decide) rfl (fun ls hl => ?_)
  refine lv_iconst (v := 0) hx hb d_ClerkRows_passTo_14 (by decide) ?_
  refine lv_istore (lv' := [(5, .int 0), (4, .int (nI 300)), (3, .ref pa), (0, .ref a), (1, .long t)]) hx hb d_ClerkRows_passTo_15 hl (by decide) rfl (fun ls hl => ?_)
  have loop : ∀ (d i : Nat) (k : Nat) (f1 : wd_M) (H : Heap) (locs : List Loc) (ls : Array Slot), n = i + d → wd_I D classes (wd_A f s.heap.size) s.heap f1 H locs → k = cL t P i → f1 a = some (eR mo pa ka md t (lt + nI k)) → f1 pa = some (eA (ca 0) 300 gp) → rp f1 gp n (pst t P i) → (∀ q : Nat, q ≠ a → (∀ j : Nat, j < n → q ≠ pAd (P j)) → f1 q = f q) → lv_has ls 7 [(5, .int (nI i)), (3, .ref pa), (4, .int (nI 300)), (1, .long t), (0, .ref a)] → W p l e rm_ClerkRows_passTo s m args below meth c H locs 0 0 Q (F0 m 17 ls []) := by
    intro d
    induction d with
    | zero =>
      intro i k f1 H locs ls hd hw hk hq1 hg1 hq2 hq3 hl
      have hin : i = n := by omega
      rcases Nat.lt_or_ge i 300 with h3 | h3
      · skip
        refine lv_iload hx hb d_ClerkRows_passTo_17 (lv_at hl 0 rfl) ?_
        refine lv_iload hx hb d_ClerkRows_passTo_19 (lv_at hl 2 rfl) ?_
        refine lv_icmp_ge (tgt := 78) hx hb d_ClerkRows_passTo_21 (by decide) (fun c => absurd c (nI_ge h3 (by decide))) (fun _ => ?_)
        refine lv_aload_n hx hb d_ClerkRows_passTo_24 rfl (lv_at hl 1 rfl) ?_
        refine lv_iload hx hb d_ClerkRows_passTo_25 (lv_at hl 0 rfl) ?_
        refine wd_aldN X hK hw hg1 0 rfl h3 (by decide) (hq2.2.2 i (Nat.le_of_eq hin.symm)) d_ClerkRows_passTo_27 ?_
        refine lv_astoreN (lv' := [(6, .null), (5, .int (nI i)), (3, .ref pa), (4, .int (nI 300)), (1, .long t), (0, .ref a)]) hx hb d_ClerkRows_passTo_28 hl (by decide) rfl (fun ls hl => ?_)
        refine lv_aloadN hx hb d_ClerkRows_passTo_30 (lv_at hl 0 rfl) ?_
        refine lv_ifnonnullN hx hb d_ClerkRows_passTo_32 ?_
        refine lv_goto (tgt := 78) hx hb d_ClerkRows_passTo_35 (by decide) ?_
        exact ret _ _ _ _ _ d_ClerkRows_passTo_78 hw (by subst hin; rw [hk] at hq1; exact ⟨hq1, hg1, hq2, hq3⟩)
      · skip
        refine lv_iload hx hb d_ClerkRows_passTo_17 (lv_at hl 0 rfl) ?_
        refine lv_iload hx hb d_ClerkRows_passTo_19 (lv_at hl 2 rfl) ?_
        refine lv_icmp_ge (tgt := 78) hx hb d_ClerkRows_passTo_21 (by decide) (fun _ => ?_) (fun c => absurd (nI_le h3 (by rw [hin]; exact Nat.lt_of_le_of_lt hq2.1 (by decide))) c)
        exact ret _ _ _ _ _ d_ClerkRows_passTo_78 hw (by subst hin; rw [hk] at hq1; exact ⟨hq1, hg1, hq2, hq3⟩)
    | succ d ih =>
      intro i k f1 H locs ls hd hw hk hq1 hg1 hq2 hq3 hl
      have hin : i < n := by omega
      have h3 : i < 300 := Nat.lt_of_lt_of_le hin hq2.1
      obtain ⟨hgi, la, hpi, hci⟩ := hq2.2.1 i hin
      rw [pst_ge (Nat.le_refl i)] at hgi hpi hci
      refine lv_iload hx hb d_ClerkRows_passTo_17 (lv_at hl 0 rfl) ?_
      refine lv_iload hx hb d_ClerkRows_passTo_19 (lv_at hl 2 rfl) ?_
      refine lv_icmp_ge (tgt := 78) hx hb d_ClerkRows_passTo_21 (by decide) (fun c => absurd c (nI_ge h3 (by decide))) (fun _ => ?_)
      refine lv_aload_n hx hb d_ClerkRows_passTo_24 rfl (lv_at hl 1 rfl) ?_
      refine lv_iload hx hb d_ClerkRows_passTo_25 (lv_at hl 0 rfl) ?_
      refine wd_aldS X hK hw hg1 0 rfl h3 (by decide) hgi d_ClerkRows_passTo_27 ?_
      refine lv_astore (lv' := [(6, .ref (pAd (P i))), (5, .int (nI i)), (3, .ref pa), (4, .int (nI 300)), (1, .long t), (0, .ref a)]) hx hb d_ClerkRows_passTo_28 hl (by decide) rfl (fun ls hl => ?_)
      refine lv_aload hx hb d_ClerkRows_passTo_30 (lv_at hl 0 rfl) ?_
      refine lv_ifnonnull (tgt := 38) hx hb d_ClerkRows_passTo_32 (by decide) ?_
      refine lv_aload hx hb d_ClerkRows_passTo_38 (lv_at hl 0 rfl) ?_
      refine wd_cvi (As := []) (rest := []) X hK hw (c_Picture_hasEnded (pAd (P i)) (nI (i + 1)) (pDu (P i)) (pSk (P i)) (pWa (P i)) (pAn (P i)) (pEn (P i)) (pSw (P i)) la hpi) (cw_ClerkRows_114 hts rfl rfl ⟨(Nat.le_of_ble_eq_true rfl), (Nat.le_of_ble_eq_true rfl)⟩) hpi rfl rfl rfl hl.1 rfl (Nat.le_of_ble_eq_true rfl) d_ClerkRows_passTo_40 ⟨(Nat.le_of_ble_eq_true rfl), (Nat.le_of_ble_eq_true rfl)⟩ (fun r hz => ?_)
      rcases hz with ⟨z2, rfl⟩ | ⟨z2, rfl⟩
      · skip
        refine lv_if_ne (tgt := 72) hx hb d_ClerkRows_passTo_43 (by decide) (fun c3 => ?_) (fun c3 => ?_)
        · skip
          refine lv_iinc (v := ((nI i) + 1)) (lv' := [(5, .int ((nI i) + 1)), (6, .ref (pAd (P i))), (3, .ref pa), (4, .int (nI 300)), (1, .long t), (0, .ref a)]) hx hb d_ClerkRows_passTo_72 hl (k := 1) rfl rfl (by decide) rfl (fun ls hl => ?_)
          refine lv_goto (tgt := 17) hx hb d_ClerkRows_passTo_75 (by decide) ?_
          exact ih (i + 1) k f1 _ _ ls (by omega) hw (by rw [hk]; exact (if_neg (fun q => z2 q.1)).symm) hq1 hg1 (by rw [pst_no (fun q => z2 q.1)]; exact hq2) hq3 (by rw [nI_succ i]; exact lv_sub hl [0, 2, 3, 4, 5] rfl)
        · exact absurd c3 (by decide)
      · skip
        refine lv_if_ne (tgt := 72) hx hb d_ClerkRows_passTo_43 (by decide) (fun c4 => ?_) (fun c4 => ?_)
        · exact absurd c4 (by decide)
        · skip
          refine lv_aload hx hb d_ClerkRows_passTo_46 (lv_at hl 0 rfl) ?_
          refine fg_ClerkRows_131 X hK hw hpi d_ClerkRows_passTo_48 ?_
          refine lv_lload_n hx hb d_ClerkRows_passTo_51 rfl (lv_at hl 4 rfl) ?_
          refine W.lcmp hx hb d_ClerkRows_passTo_52 ?_
          refine lv_if_ge (tgt := 72) hx hb d_ClerkRows_passTo_53 (by decide) (fun c5 => ?_) (fun c5 => ?_)
          · skip
            refine lv_iinc (v := ((nI i) + 1)) (lv' := [(5, .int ((nI i) + 1)), (6, .ref (pAd (P i))), (3, .ref pa), (4, .int (nI 300)), (1, .long t), (0, .ref a)]) hx hb d_ClerkRows_passTo_72 hl (k := 1) rfl rfl (by decide) rfl (fun ls hl => ?_)
            refine lv_goto (tgt := 17) hx hb d_ClerkRows_passTo_75 (by decide) ?_
            exact ih (i + 1) k f1 _ _ ls (by omega) hw (by rw [hk]; exact (if_neg (fun q => cmp_ge c5 q.2)).symm) hq1 hg1 (by rw [pst_no (fun q => cmp_ge c5 q.2)]; exact hq2) hq3 (by rw [nI_succ i]; exact lv_sub hl [0, 2, 3, 4, 5] rfl)
          · skip
            have hpi0 := hpi
            refine lv_aload hx hb d_ClerkRows_passTo_56 (lv_at hl 0 rfl) ?_
            refine lv_iconst (v := 4) hx hb d_ClerkRows_passTo_58 (by decide) ?_
            refine fp_ClerkRows_134 X hK hw hpi rfl rfl d_ClerkRows_passTo_59 (fun f6 H locs ef6 hw => ?_)
            have hq1 : f6 a = some (eR mo pa ka md t (lt + nI k)) := by rw [ef6, wd_un (wd_ne hq1 hpi (by decide))]; exact hq1
            have hg1 : f6 pa = some (eA (ca 0) 300 gp) := by rw [ef6, wd_un (Ne.symm (wd_neA hpi hg1))]; exact hg1
            have hpi : f6 (pAd (P i)) = some (eP (nI (i + 1)) (pDu (P i)) (pSk (P i)) (pWa (P i)) (pAn (P i)) 4 (pSw (P i)) la) := by rw [ef6]; exact wd_us
            have hq2 : rp f6 gp n (pst t P (i + 1)) := by rw [ef6]; exact rp_late hq2 hin ⟨Decidable.not_not.mp z2, cmp_nge c5⟩ hpi0 hci
            have hq3 : ∀ q : Nat, q ≠ a → (∀ j : Nat, j < n → q ≠ pAd (P j)) → f6 q = f q := fun q h1 h2 => by rw [ef6, wd_un (h2 i hin)]; exact hq3 q h1 h2
            refine lv_aload_n hx hb d_ClerkRows_passTo_62 rfl (lv_at hl 5 rfl) ?_
            refine lv_dup hx hb d_ClerkRows_passTo_63 rfl ?_
            refine fg_ClerkRows_29 X hK hw hq1 d_ClerkRows_passTo_64 ?_
            refine lv_iconst (v := 1) hx hb d_ClerkRows_passTo_67 (by decide) ?_
            refine lv_iadd hx hb d_ClerkRows_passTo_68 ?_
            have hq10 := hq1
            refine fp_ClerkRows_29 X hK hw hq1 rfl rfl d_ClerkRows_passTo_69 (fun f7 H locs ef7 hw => ?_)
            have hg1 : f7 pa = some (eA (ca 0) 300 gp) := by rw [ef7, wd_un (Ne.symm (wd_neA hq1 hg1))]; exact hg1
            have hpi : f7 (pAd (P i)) = some (eP (nI (i + 1)) (pDu (P i)) (pSk (P i)) (pWa (P i)) (pAn (P i)) 4 (pSw (P i)) la) := by rw [ef7, wd_un (wd_ne hpi hq1 (by decide))]; exact hpi
            have hq1 : f7 a = some (eR mo pa ka md t ((lt + nI k) + 1)) := by rw [ef7]; exact wd_us
            have hq2 : rp f7 gp n (pst t P (i + 1)) := by rw [ef7]; exact rp_off hq2 hq10 (by decide) (by decide)
            have hq3 : ∀ q : Nat, q ≠ a → (∀ j : Nat, j < n → q ≠ pAd (P j)) → f7 q = f q := fun q h1 h2 => by rw [ef7, wd_un h1]; exact hq3 q h1 h2
            refine lv_iinc (v := ((nI i) + 1)) (lv' := [(5, .int ((nI i) + 1)), (6, .ref (pAd (P i))), (3, .ref pa), (4, .int (nI 300)), (1, .long t), (0, .ref a)]) hx hb d_ClerkRows_passTo_72 hl (k := 1) rfl rfl (by decide) rfl (fun ls hl => ?_)
            refine lv_goto (tgt := 17) hx hb d_ClerkRows_passTo_75 (by decide) ?_
            exact ih (i + 1) (k + 1) f7 _ _ ls (by omega) hw (by rw [hk]; exact (if_pos ⟨Decidable.not_not.mp z2, cmp_nge c5⟩).symm) (by rw [nI_succ k, ← Int32.add_assoc]; exact hq1) hg1 hq2 hq3 (by rw [nI_succ i]; exact lv_sub hl [0, 2, 3, 4, 5] rfl)
  exact loop n 0 0 f1 _ _ ls (Nat.zero_add n).symm hw rfl (by rw [add_n0]; exact ha) hg (by rw [pst_0, ef1]; exact rp_off hr ha0 (by decide) (by decide)) (fun q h1 _ => by rw [ef1, wd_un h1]) (lv_sub hl [0, 2, 1, 4, 3] rfl)

abbrev rm_ClerkRows_agreement : Room := { frames := 1, cells := 0, slots := 0, locals := 22 }
set_option maxHeartbeats 4000000 in
set_option maxRecDepth 100000 in
theorem c_ClerkRows_agreement {l : Launch} {D : va_G} {ca : Nat → ClassId} {f : wd_M} (a : Nat) (mo : Int32) (pa ka : Nat) (md : Int32) (nw : Int64) (lt : Int32) (ha : f a = some (eR mo pa ka md nw lt)) (gp : Nat → Option Nat) (hg : f pa = some (eA (ca 0) 300 gp)) (n : Nat) (P : Nat → PT) (hr : rp f gp n P) (gk : Nat → Option Nat) (K : Nat → KT) (hgk : f ka = some (eA (ca 1) 20 gk)) (hrk : rk f gk K) (x y sd : Int32) : Met l y_ClerkRows_agreement (.code y_ClerkRows_agreement b_ClerkRows_agreement 14 (some .long) :: tb) rm_ClerkRows_agreement (va_Pc [.ref a, .int x, .int y, .int sd] (wd_pre D classes (ty ca) f)) (vp_Sl (fun r => r = agr P n x y sd)) 0 0 (fun _ => False) := by
  refine wd_Sl (own := R_ClerkRows) (by decide) rfl (Nat.le_of_ble_eq_true rfl) ?_
  intro p e s m args below meth c Q X hK hw ret ls hl
  have hx := X.1
  have hb := X.2.1
  have hown := X.2.2.2.1
  have hts := X.2.2.2.2
  have hl : lv_has ls 14 [(0, .ref a), (1, .int x), (2, .int y), (3, .int sd)] := hl
  refine lv_aload_n hx hb d_ClerkRows_agreement_0 rfl (lv_at hl 0 rfl) ?_
  refine lv_iload_n hx hb d_ClerkRows_agreement_1 rfl (lv_at hl 1 rfl) ?_
  refine wd_cvq (As := [.int x]) (rest := []) X hK hw (c_ClerkRows_findClerk a mo pa ka md nw lt ha gk hgk x) (cw_ClerkRows_62 hts rfl rfl ⟨(Nat.le_of_ble_eq_true rfl), (Nat.le_of_ble_eq_true rfl)⟩) ha rfl rfl rfl hl.1 rfl (Nat.le_of_ble_eq_true rfl) d_ClerkRows_agreement_2 ⟨(Nat.le_of_ble_eq_true rfl), (Nat.le_of_ble_eq_true rfl)⟩ (fun r hz => ?_)
  rcases hz with ⟨j1, hj1, hx1, hz⟩ | ⟨nx1, hz⟩
  · skip
    rw [(hrk j1 hj1).1] at hz
    subst hz
    have hkj1 : f (kAd (K j1)) = some (eJ (nI j1) (K j1)) := (hrk j1 hj1).2
    refine lv_ifnull hx hb d_ClerkRows_agreement_5 ?_
    refine lv_aload_n hx hb d_ClerkRows_agreement_8 rfl (lv_at hl 0 rfl) ?_
    refine lv_iload_n hx hb d_ClerkRows_agreement_9 rfl (lv_at hl 2 rfl) ?_
    refine wd_cvq (As := [.int y]) (rest := []) X hK hw (c_ClerkRows_findClerk a mo pa ka md nw lt ha gk hgk y) (cw_ClerkRows_62 hts rfl rfl ⟨(Nat.le_of_ble_eq_true rfl), (Nat.le_of_ble_eq_true rfl)⟩) ha rfl rfl rfl hl.1 rfl (Nat.le_of_ble_eq_true rfl) d_ClerkRows_agreement_10 ⟨(Nat.le_of_ble_eq_true rfl), (Nat.le_of_ble_eq_true rfl)⟩ (fun r hz => ?_)
    rcases hz with ⟨j2, hj2, hy1, hz⟩ | ⟨ny1, hz⟩
    · skip
      rw [(hrk j2 hj2).1] at hz
      subst hz
      have hkj2 : f (kAd (K j2)) = some (eJ (nI j2) (K j2)) := (hrk j2 hj2).2
      refine lv_ifnonnull (tgt := 20) hx hb d_ClerkRows_agreement_13 (by decide) ?_
      refine lv_iload_n hx hb d_ClerkRows_agreement_20 rfl (lv_at hl 3 rfl) ?_
      refine lv_iconst (v := 1) hx hb d_ClerkRows_agreement_21 (by decide) ?_
      refine wd_csi (As := [.int sd, .int 1]) (rest := []) X hK hw (c_ClerkRows_isWithin sd 1) (cw_ClerkRows_51 hts rfl rfl ⟨(Nat.le_of_ble_eq_true rfl), (Nat.le_of_ble_eq_true rfl)⟩) rfl hl.1 rfl (Nat.le_of_ble_eq_true rfl) d_ClerkRows_agreement_22 ⟨(Nat.le_of_ble_eq_true rfl), (Nat.le_of_ble_eq_true rfl)⟩ (fun r hz => ?_)
      rcases hz with ⟨z1, rfl⟩ | ⟨z1, rfl⟩
      · skip
        refine lv_if_eq (tgt := 33) hx hb d_ClerkRows_agreement_25 (by decide) (fun c2 => ?_) (fun c2 => ?_)
        · exact absurd c2 (by decide)
        · skip
          refine lv_iload_n hx hb d_ClerkRows_agreement_28 rfl (lv_at hl 1 rfl) ?_
          refine lv_iload_n hx hb d_ClerkRows_agreement_29 rfl (lv_at hl 2 rfl) ?_
          refine lv_icmp_ne (tgt := 37) hx hb d_ClerkRows_agreement_30 (by decide) (fun c3 => ?_) (fun c3 => ?_)
          · skip
            have hwi := z1
            have hxy := c3
            refine lv_lconst (v := 0) hx hb d_ClerkRows_agreement_37 (by decide) ?_
            refine lv_lstore (lv' := [(4, .long 0), (0, .ref a), (1, .int x), (2, .int y), (3, .int sd)]) hx hb d_ClerkRows_agreement_38 hl (by decide) rfl (fun ls hl => ?_)
            refine lv_lconst (v := 0) hx hb d_ClerkRows_agreement_40 (by decide) ?_
            refine lv_lstore (lv' := [(6, .long 0), (4, .long 0), (0, .ref a), (1, .int x), (2, .int y), (3, .int sd)]) hx hb d_ClerkRows_agreement_41 hl (by decide) rfl (fun ls hl => ?_)
            refine lv_aload_n hx hb d_ClerkRows_agreement_43 rfl (lv_at hl 2 rfl) ?_
            refine fg_ClerkRows_11 X hK hw ha d_ClerkRows_agreement_44 ?_
            refine lv_astore (lv' := [(8, .ref pa), (6, .long 0), (4, .long 0), (0, .ref a), (1, .int x), (2, .int y), (3, .int sd)]) hx hb d_ClerkRows_agreement_47 hl (by decide) rfl (fun ls hl => ?_)
            refine lv_aload hx hb d_ClerkRows_agreement_49 (lv_at hl 0 rfl) ?_
            refine wd_alen X hK hw hg 0 rfl (v := nI 300) rfl d_ClerkRows_agreement_51 ?_
            refine lv_istore (lv' := [(9, .int (nI 300)), (8, .ref pa), (6, .long 0), (4, .long 0), (0, .ref a), (1, .int x), (2, .int y), (3, .int sd)]) hx hb d_ClerkRows_agreement_52 hl (by decide) rfl (fun ls hl => ?_)
            refine lv_iconst (v := 0) hx hb d_ClerkRows_agreement_54 (by decide) ?_
            refine lv_istore (lv' := [(10, .int 0), (9, .int (nI 300)), (8, .ref pa), (6, .long 0), (4, .long 0), (0, .ref a), (1, .int x), (2, .int y), (3, .int sd)]) hx hb d_ClerkRows_agreement_55 hl (by decide) rfl (fun ls hl => ?_)
            have loop : ∀ (d i : Nat) (kb : Nat) (kc : Nat) (ls : Array Slot), n = i + d → kb = agB P x y i → kc = agA P x y i → lv_has ls 14 [(10, .int (nI i)), (4, .long (lN kb)), (6, .long (lN kc)), (8, .ref pa), (9, .int (nI 300)), (1, .int x), (2, .int y), (3, .int sd), (0, .ref a)] → W p l e rm_ClerkRows_agreement s m args below meth c s.heap [] 0 0 Q (F0 m 57 ls []) := by
              intro d
              induction d with
              | zero =>
                intro i kb kc ls hd hkb hkc hl
                have hin : i = n := by omega
                rcases Nat.lt_or_ge i 300 with h3 | h3
                · skip
                  refine lv_iload hx hb d_ClerkRows_agreement_57 (lv_at hl 0 rfl) ?_
                  refine lv_iload hx hb d_ClerkRows_agreement_59 (lv_at hl 4 rfl) ?_
                  refine lv_icmp_ge (tgt := 134) hx hb d_ClerkRows_agreement_61 (by decide) (fun c => absurd c (nI_ge h3 (by decide))) (fun _ => ?_)
                  refine lv_aload hx hb d_ClerkRows_agreement_64 (lv_at hl 3 rfl) ?_
                  refine lv_iload hx hb d_ClerkRows_agreement_66 (lv_at hl 0 rfl) ?_
                  refine wd_aldN X hK hw hg 0 rfl h3 (by decide) (hr.2.2 i (Nat.le_of_eq hin.symm)) d_ClerkRows_agreement_68 ?_
                  refine lv_astoreN (lv' := [(11, .null), (10, .int (nI i)), (4, .long (lN kb)), (6, .long (lN kc)), (8, .ref pa), (9, .int (nI 300)), (1, .int x), (2, .int y), (3, .int sd), (0, .ref a)]) hx hb d_ClerkRows_agreement_69 hl (by decide) rfl (fun ls hl => ?_)
                  refine lv_aloadN hx hb d_ClerkRows_agreement_71 (lv_at hl 0 rfl) ?_
                  refine lv_ifnonnullN hx hb d_ClerkRows_agreement_73 ?_
                  refine lv_goto (tgt := 134) hx hb d_ClerkRows_agreement_76 (by decide) ?_
                  refine lv_iload_n hx hb d_ClerkRows_agreement_134 rfl (lv_at hl 8 rfl) ?_
                  refine lv_iconst (v := 1) hx hb d_ClerkRows_agreement_135 (by decide) ?_
                  refine lv_icmp_ne (tgt := 144) hx hb d_ClerkRows_agreement_136 (by decide) (fun c4 => ?_) (fun c4 => ?_)
                  · skip
                    refine lv_lload hx hb d_ClerkRows_agreement_144 (lv_at hl 3 rfl) ?_
                    exact ret _ _ _ d_ClerkRows_agreement_146 (by rw [agr, if_neg (fun q => q ⟨(okK_of hj1 hx1), (okK_of hj2 hy1)⟩), if_neg (fun q => Or.elim q (fun z => z hwi) (fun z => hxy z)), if_neg c4, hkc, hin])
                  · skip
                    refine lv_lload hx hb d_ClerkRows_agreement_139 (lv_at hl 2 rfl) ?_
                    refine lv_goto (tgt := 146) hx hb d_ClerkRows_agreement_141 (by decide) ?_
                    exact ret _ _ _ d_ClerkRows_agreement_146 (by rw [agr, if_neg (fun q => q ⟨(okK_of hj1 hx1), (okK_of hj2 hy1)⟩), if_neg (fun q => Or.elim q (fun z => z hwi) (fun z => hxy z)), if_pos c4, hkb, hin])
                · skip
                  refine lv_iload hx hb d_ClerkRows_agreement_57 (lv_at hl 0 rfl) ?_
                  refine lv_iload hx hb d_ClerkRows_agreement_59 (lv_at hl 4 rfl) ?_
                  refine lv_icmp_ge (tgt := 134) hx hb d_ClerkRows_agreement_61 (by decide) (fun _ => ?_) (fun c => absurd (nI_le h3 (by rw [hin]; exact Nat.lt_of_le_of_lt hr.1 (by decide))) c)
                  refine lv_iload_n hx hb d_ClerkRows_agreement_134 rfl (lv_at hl 7 rfl) ?_
                  refine lv_iconst (v := 1) hx hb d_ClerkRows_agreement_135 (by decide) ?_
                  refine lv_icmp_ne (tgt := 144) hx hb d_ClerkRows_agreement_136 (by decide) (fun c5 => ?_) (fun c5 => ?_)
                  · skip
                    refine lv_lload hx hb d_ClerkRows_agreement_144 (lv_at hl 2 rfl) ?_
                    exact ret _ _ _ d_ClerkRows_agreement_146 (by rw [agr, if_neg (fun q => q ⟨(okK_of hj1 hx1), (okK_of hj2 hy1)⟩), if_neg (fun q => Or.elim q (fun z => z hwi) (fun z => hxy z)), if_neg c5, hkc, hin])
                  · skip
                    refine lv_lload hx hb d_ClerkRows_agreement_139 (lv_at hl 1 rfl) ?_
                    refine lv_goto (tgt := 146) hx hb d_ClerkRows_agreement_141 (by decide) ?_
                    exact ret _ _ _ d_ClerkRows_agreement_146 (by rw [agr, if_neg (fun q => q ⟨(okK_of hj1 hx1), (okK_of hj2 hy1)⟩), if_neg (fun q => Or.elim q (fun z => z hwi) (fun z => hxy z)), if_pos c5, hkb, hin])
              | succ d ih =>
                intro i kb kc ls hd hkb hkc hl
                have hin : i < n := by omega
                have h3 : i < 300 := Nat.lt_of_lt_of_le hin hr.1
                obtain ⟨hgi, la, hpi, hci⟩ := hr.2.1 i hin
                refine lv_iload hx hb d_ClerkRows_agreement_57 (lv_at hl 0 rfl) ?_
                refine lv_iload hx hb d_ClerkRows_agreement_59 (lv_at hl 4 rfl) ?_
                refine lv_icmp_ge (tgt := 134) hx hb d_ClerkRows_agreement_61 (by decide) (fun c => absurd c (nI_ge h3 (by decide))) (fun _ => ?_)
                refine lv_aload hx hb d_ClerkRows_agreement_64 (lv_at hl 3 rfl) ?_
                refine lv_iload hx hb d_ClerkRows_agreement_66 (lv_at hl 0 rfl) ?_
                refine wd_aldS X hK hw hg 0 rfl h3 (by decide) hgi d_ClerkRows_agreement_68 ?_
                refine lv_astore (lv' := [(11, .ref (pAd (P i))), (10, .int (nI i)), (4, .long (lN kb)), (6, .long (lN kc)), (8, .ref pa), (9, .int (nI 300)), (1, .int x), (2, .int y), (3, .int sd), (0, .ref a)]) hx hb d_ClerkRows_agreement_69 hl (by decide) rfl (fun ls hl => ?_)
                refine lv_aload hx hb d_ClerkRows_agreement_71 (lv_at hl 0 rfl) ?_
                refine lv_ifnonnull (tgt := 79) hx hb d_ClerkRows_agreement_73 (by decide) ?_
                refine lv_aload hx hb d_ClerkRows_agreement_79 (lv_at hl 0 rfl) ?_
                refine lv_iload_n hx hb d_ClerkRows_agreement_81 rfl (lv_at hl 6 rfl) ?_
                refine wd_cvi (As := [.int x]) (rest := []) X hK hw (c_Picture_findEntry (pAd (P i)) (nI (i + 1)) (pDu (P i)) (pSk (P i)) (pWa (P i)) (pAn (P i)) (pEn (P i)) (pSw (P i)) la hpi (pL (P i)) hci x) (cw_ClerkRows_125 hts rfl rfl ⟨(Nat.le_of_ble_eq_true rfl), (Nat.le_of_ble_eq_true rfl)⟩) hpi rfl rfl rfl hl.1 rfl (Nat.le_of_ble_eq_true rfl) d_ClerkRows_agreement_82 ⟨(Nat.le_of_ble_eq_true rfl), (Nat.le_of_ble_eq_true rfl)⟩ (fun r hz => ?_)
                subst hz
                refine lv_istore (lv' := [(12, .int (fndE x (pL (P i)))), (11, .ref (pAd (P i))), (10, .int (nI i)), (4, .long (lN kb)), (6, .long (lN kc)), (8, .ref pa), (9, .int (nI 300)), (1, .int x), (2, .int y), (3, .int sd), (0, .ref a)]) hx hb d_ClerkRows_agreement_85 hl (by decide) rfl (fun ls hl => ?_)
                refine lv_aload hx hb d_ClerkRows_agreement_87 (lv_at hl 1 rfl) ?_
                refine lv_iload_n hx hb d_ClerkRows_agreement_89 rfl (lv_at hl 8 rfl) ?_
                refine wd_cvi (As := [.int y]) (rest := []) X hK hw (c_Picture_findEntry (pAd (P i)) (nI (i + 1)) (pDu (P i)) (pSk (P i)) (pWa (P i)) (pAn (P i)) (pEn (P i)) (pSw (P i)) la hpi (pL (P i)) hci y) (cw_ClerkRows_125 hts rfl rfl ⟨(Nat.le_of_ble_eq_true rfl), (Nat.le_of_ble_eq_true rfl)⟩) hpi rfl rfl rfl hl.1 rfl (Nat.le_of_ble_eq_true rfl) d_ClerkRows_agreement_90 ⟨(Nat.le_of_ble_eq_true rfl), (Nat.le_of_ble_eq_true rfl)⟩ (fun r hz => ?_)
                subst hz
                refine lv_istore (lv' := [(13, .int (fndE y (pL (P i)))), (12, .int (fndE x (pL (P i)))), (11, .ref (pAd (P i))), (10, .int (nI i)), (4, .long (lN kb)), (6, .long (lN kc)), (8, .ref pa), (9, .int (nI 300)), (1, .int x), (2, .int y), (3, .int sd), (0, .ref a)]) hx hb d_ClerkRows_agreement_93 hl (by decide) rfl (fun ls hl => ?_)
                refine lv_iload hx hb d_ClerkRows_agreement_95 (lv_at hl 1 rfl) ?_
                refine lv_if_lt (tgt := 128) hx hb d_ClerkRows_agreement_97 (by decide) (fun c6 => ?_) (fun c6 => ?_)
                · skip
                  refine lv_iinc (v := ((nI i) + 1)) (lv' := [(10, .int ((nI i) + 1)), (13, .int (fndE y (pL (P i)))), (12, .int (fndE x (pL (P i)))), (11, .ref (pAd (P i))), (4, .long (lN kb)), (6, .long (lN kc)), (8, .ref pa), (9, .int (nI 300)), (1, .int x), (2, .int y), (3, .int sd), (0, .ref a)]) hx hb d_ClerkRows_agreement_128 hl (k := 3) rfl rfl (by decide) rfl (fun ls hl => ?_)
                  refine lv_goto (tgt := 57) hx hb d_ClerkRows_agreement_131 (by decide) ?_
                  exact ih (i + 1) kb kc ls (by omega) (by rw [hkb]; exact (if_neg (fun q => q.1 c6)).symm) (by rw [hkc]; exact (if_neg (fun q => (fun q => q.1 c6) q.1)).symm) (by rw [nI_succ i]; exact lv_sub hl [0, 4, 5, 6, 7, 8, 9, 10, 11] rfl)
                · skip
                  refine lv_iload hx hb d_ClerkRows_agreement_100 (lv_at hl 0 rfl) ?_
                  refine lv_if_lt (tgt := 128) hx hb d_ClerkRows_agreement_102 (by decide) (fun c7 => ?_) (fun c7 => ?_)
                  · skip
                    refine lv_iinc (v := ((nI i) + 1)) (lv' := [(10, .int ((nI i) + 1)), (13, .int (fndE y (pL (P i)))), (12, .int (fndE x (pL (P i)))), (11, .ref (pAd (P i))), (4, .long (lN kb)), (6, .long (lN kc)), (8, .ref pa), (9, .int (nI 300)), (1, .int x), (2, .int y), (3, .int sd), (0, .ref a)]) hx hb d_ClerkRows_agreement_128 hl (k := 3) rfl rfl (by decide) rfl (fun ls hl => ?_)
                    refine lv_goto (tgt := 57) hx hb d_ClerkRows_agreement_131 (by decide) ?_
                    exact ih (i + 1) kb kc ls (by omega) (by rw [hkb]; exact (if_neg (fun q => q.2 c7)).symm) (by rw [hkc]; exact (if_neg (fun q => (fun q => q.2 c7) q.1)).symm) (by rw [nI_succ i]; exact lv_sub hl [0, 4, 5, 6, 7, 8, 9, 10, 11] rfl)
                  · skip
                    refine lv_lload hx hb d_ClerkRows_agreement_105 (lv_at hl 4 rfl) ?_
                    refine lv_lconst (v := 1) hx hb d_ClerkRows_agreement_107 (by decide) ?_
                    refine lv_ladd hx hb d_ClerkRows_agreement_108 ?_
                    refine lv_lstore (lv' := [(4, .long ((lN kb) + 1)), (13, .int (fndE y (pL (P i)))), (12, .int (fndE x (pL (P i)))), (11, .ref (pAd (P i))), (10, .int (nI i)), (6, .long (lN kc)), (8, .ref pa), (9, .int (nI 300)), (1, .int x), (2, .int y), (3, .int sd), (0, .ref a)]) hx hb d_ClerkRows_agreement_109 hl (by decide) rfl (fun ls hl => ?_)
                    refine lv_lload hx hb d_ClerkRows_agreement_111 (lv_at hl 5 rfl) ?_
                    refine lv_iload hx hb d_ClerkRows_agreement_113 (lv_at hl 2 rfl) ?_
                    refine lv_iload hx hb d_ClerkRows_agreement_115 (lv_at hl 1 rfl) ?_
                    refine lv_icmp_ne (tgt := 124) hx hb d_ClerkRows_agreement_117 (by decide) (fun c8 => ?_) (fun c8 => ?_)
                    · skip
                      refine lv_lconst (v := 0) hx hb d_ClerkRows_agreement_124 (by decide) ?_
                      refine lv_ladd hx hb d_ClerkRows_agreement_125 ?_
                      refine lv_lstore (lv' := [(6, .long ((lN kc) + 0)), (4, .long ((lN kb) + 1)), (13, .int (fndE y (pL (P i)))), (12, .int (fndE x (pL (P i)))), (11, .ref (pAd (P i))), (10, .int (nI i)), (8, .ref pa), (9, .int (nI 300)), (1, .int x), (2, .int y), (3, .int sd), (0, .ref a)]) hx hb d_ClerkRows_agreement_126 hl (by decide) rfl (fun ls hl => ?_)
                      refine lv_iinc (v := ((nI i) + 1)) (lv' := [(10, .int ((nI i) + 1)), (6, .long ((lN kc) + 0)), (4, .long ((lN kb) + 1)), (13, .int (fndE y (pL (P i)))), (12, .int (fndE x (pL (P i)))), (11, .ref (pAd (P i))), (8, .ref pa), (9, .int (nI 300)), (1, .int x), (2, .int y), (3, .int sd), (0, .ref a)]) hx hb d_ClerkRows_agreement_128 hl (k := 5) rfl rfl (by decide) rfl (fun ls hl => ?_)
                      refine lv_goto (tgt := 57) hx hb d_ClerkRows_agreement_131 (by decide) ?_
                      exact ih (i + 1) (kb + 1) kc ls (by omega) (by rw [hkb]; exact (if_pos ⟨c6, c7⟩).symm) (by rw [hkc]; exact (if_neg (fun q => c8 q.2)).symm) (by rw [nI_succ i, lN_s kb, ← lN_z kc]; exact lv_sub hl [0, 2, 1, 6, 7, 8, 9, 10, 11] rfl)
                    · skip
                      refine lv_lconst (v := 1) hx hb d_ClerkRows_agreement_120 (by decide) ?_
                      refine lv_goto (tgt := 125) hx hb d_ClerkRows_agreement_121 (by decide) ?_
                      refine lv_ladd hx hb d_ClerkRows_agreement_125 ?_
                      refine lv_lstore (lv' := [(6, .long ((lN kc) + 1)), (4, .long ((lN kb) + 1)), (13, .int (fndE y (pL (P i)))), (12, .int (fndE x (pL (P i)))), (11, .ref (pAd (P i))), (10, .int (nI i)), (8, .ref pa), (9, .int (nI 300)), (1, .int x), (2, .int y), (3, .int sd), (0, .ref a)]) hx hb d_ClerkRows_agreement_126 hl (by decide) rfl (fun ls hl => ?_)
                      refine lv_iinc (v := ((nI i) + 1)) (lv' := [(10, .int ((nI i) + 1)), (6, .long ((lN kc) + 1)), (4, .long ((lN kb) + 1)), (13, .int (fndE y (pL (P i)))), (12, .int (fndE x (pL (P i)))), (11, .ref (pAd (P i))), (8, .ref pa), (9, .int (nI 300)), (1, .int x), (2, .int y), (3, .int sd), (0, .ref a)]) hx hb d_ClerkRows_agreement_128 hl (k := 5) rfl rfl (by decide) rfl (fun ls hl => ?_)
                      refine lv_goto (tgt := 57) hx hb d_ClerkRows_agreement_131 (by decide) ?_
                      exact ih (i + 1) (kb + 1) (kc + 1) ls (by omega) (by rw [hkb]; exact (if_pos ⟨c6, c7⟩).symm) (by rw [hkc]; exact (if_pos ⟨⟨c6, c7⟩, c8⟩).symm) (by rw [nI_succ i, lN_s kb, lN_s kc]; exact lv_sub hl [0, 2, 1, 6, 7, 8, 9, 10, 11] rfl)
            exact loop n 0 0 0 ls (Nat.zero_add n).symm rfl rfl (lv_sub hl [0, 4, 3, 2, 1, 6, 7, 8, 5] rfl)
          · skip
            refine lv_ldc2 (v := (-102)) hx hb hown (hts _ k_ClerkRows_123) d_ClerkRows_agreement_33 ?_
            exact ret _ _ _ d_ClerkRows_agreement_36 (by rw [agr, if_neg (fun q => q ⟨(okK_of hj1 hx1), (okK_of hj2 hy1)⟩), if_pos (Or.inr c3)])
      · skip
        refine lv_if_eq (tgt := 33) hx hb d_ClerkRows_agreement_25 (by decide) (fun c9 => ?_) (fun c9 => ?_)
        · skip
          refine lv_ldc2 (v := (-102)) hx hb hown (hts _ k_ClerkRows_123) d_ClerkRows_agreement_33 ?_
          exact ret _ _ _ d_ClerkRows_agreement_36 (by rw [agr, if_neg (fun q => q ⟨(okK_of hj1 hx1), (okK_of hj2 hy1)⟩), if_pos (Or.inl z1)])
        · exact absurd c9 (by decide)
    · skip
      subst hz
      refine lv_ifnonnullN hx hb d_ClerkRows_agreement_13 ?_
      refine lv_ldc2 (v := (-101)) hx hb hown (hts _ k_ClerkRows_121) d_ClerkRows_agreement_16 ?_
      exact ret _ _ _ d_ClerkRows_agreement_19 (by rw [agr, if_pos (fun q => ny1 q.2)])
  · skip
    subst hz
    refine lv_ifnullN (tgt := 16) hx hb d_ClerkRows_agreement_5 (by decide) ?_
    refine lv_ldc2 (v := (-101)) hx hb hown (hts _ k_ClerkRows_121) d_ClerkRows_agreement_16 ?_
    exact ret _ _ _ d_ClerkRows_agreement_19 (by rw [agr, if_pos (fun q => nx1 q.1)])

