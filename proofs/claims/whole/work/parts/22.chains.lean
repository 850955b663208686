abbrev rm_Picture_isWanting : Room := { frames := 0, cells := 0, slots := 0, locals := 0 }
set_option maxHeartbeats 4000000 in
set_option maxRecDepth 100000 in
theorem c_Picture_isWanting {l : Launch} {D : va_G} {ca : Nat → ClassId} {f : wd_M} (a : Nat) (no : Int32) (du : Int64) (sk wa an en sw : Int32) (la : Option Nat) (ha : f a = some (eP no du sk wa an en sw la)) (L : List TR) (hL : cx f no L la) : Met l y_Picture_isWanting (.code y_Picture_isWanting b_Picture_isWanting 3 (some .boolean) :: tb) rm_Picture_isWanting (va_Pc [.ref a] (wd_pre D classes (ty ca) f)) (vp_Si (zb (nI (tk L) < wa))) 0 0 (fun _ => False) := by
  refine wd_Sz (own := R_Picture) (by decide) rfl (Nat.le_of_ble_eq_true rfl) ?_
  intro p e s m args below meth c Q X hK hw ret ls hl
  have hx := X.1
  have hb := X.2.1
  have hown := X.2.2.2.1
  have hts := X.2.2.2.2
  have hl : lv_has ls 3 [(0, .ref a)] := hl
  refine lv_iconst (v := 0) hx hb d_Picture_isWanting_0 (by decide) ?_
  refine lv_istore_n (lv' := [(1, .int 0), (0, .ref a)]) hx hb d_Picture_isWanting_1 rfl hl (by decide) rfl (fun ls hl => ?_)
  refine lv_aload_n hx hb d_Picture_isWanting_2 rfl (lv_at hl 1 rfl) ?_
  refine fg_Picture_24 X hK hw ha d_Picture_isWanting_3 ?_
  refine wd_astore_n (lv' := [(2, va_rf la), (1, .int 0), (0, .ref a)]) hx hb d_Picture_isWanting_6 rfl hl (by decide) rfl (fun ls hl => ?_)
  have loop : ∀ (M : List TR) (k : Nat) (r : Option Nat) (ls : Array Slot), cx f no M r → tk L = k + tk M → lv_has ls 3 [(2, va_rf r), (1, .int (nI k)), (0, .ref a)] → W p l e rm_Picture_isWanting s m args below meth c s.heap [] 0 0 Q (F0 m 7 ls []) := by
    intro M
    induction M with
    | nil =>
      intro k r ls hc hk hl
      have hc : r = none := hc
      subst hc
      have hl : lv_has ls 3 [(2, .null), (1, .int (nI k)), (0, .ref a)] := hl
      refine lv_aload_nN hx hb d_Picture_isWanting_7 rfl (lv_at hl 0 rfl) ?_
      refine lv_ifnullN (tgt := 31) hx hb d_Picture_isWanting_8 (by decide) ?_
      refine lv_iload_n hx hb d_Picture_isWanting_31 rfl (lv_at hl 1 rfl) ?_
      refine lv_aload_n hx hb d_Picture_isWanting_32 rfl (lv_at hl 2 rfl) ?_
      refine fg_Picture_9 X hK hw ha d_Picture_isWanting_33 ?_
      refine lv_icmp_ge (tgt := 43) hx hb d_Picture_isWanting_36 (by decide) (fun c1 => ?_) (fun c1 => ?_)
      · skip
        refine lv_iconst (v := 0) hx hb d_Picture_isWanting_43 (by decide) ?_
        exact ret _ _ _ d_Picture_isWanting_44 rfl (Or.inr ⟨by rw [hk]; exact ge_nlt c1, rfl⟩)
      · skip
        refine lv_iconst (v := 1) hx hb d_Picture_isWanting_39 (by decide) ?_
        refine lv_goto (tgt := 44) hx hb d_Picture_isWanting_40 (by decide) ?_
        exact ret _ _ _ d_Picture_isWanting_44 rfl (Or.inl ⟨by rw [hk]; exact lt_nge c1, rfl⟩)
    | cons t M ih =>
      intro k r ls hc hk hl
      obtain ⟨hc, er, ht, hm⟩ := hc
      subst hc
      have hl : lv_has ls 3 [(2, .ref t.1), (1, .int (nI k)), (0, .ref a)] := hl
      refine lv_aload_n hx hb d_Picture_isWanting_7 rfl (lv_at hl 0 rfl) ?_
      refine lv_ifnull hx hb d_Picture_isWanting_8 ?_
      refine lv_aload_n hx hb d_Picture_isWanting_11 rfl (lv_at hl 0 rfl) ?_
      refine fg_Picture_61 X hK hw ht d_Picture_isWanting_12 ?_
      refine lv_bipush (v := (-2)) hx hb d_Picture_isWanting_15 (by decide) ?_
      refine lv_icmp_eq (tgt := 23) hx hb d_Picture_isWanting_17 (by decide) (fun c2 => ?_) (fun c2 => ?_)
      · skip
        refine lv_aload_n hx hb d_Picture_isWanting_23 rfl (lv_at hl 0 rfl) ?_
        refine fg_Picture_71 X hK hw ht d_Picture_isWanting_24 ?_
        refine wd_astore_n (lv' := [(2, va_rf er), (1, .int (nI k)), (0, .ref a)]) hx hb d_Picture_isWanting_27 rfl hl (by decide) rfl (fun ls hl => ?_)
        refine lv_goto (tgt := 7) hx hb d_Picture_isWanting_28 (by decide) ?_
        exact ih k er ls hm (by rw [hk]; simp [tk, c2]) (lv_sub hl [0, 1, 2] rfl)
      · skip
        refine lv_iinc (v := ((nI k) + 1)) (lv' := [(1, .int ((nI k) + 1)), (2, .ref t.1), (0, .ref a)]) hx hb d_Picture_isWanting_20 hl (k := 1) rfl rfl (by decide) rfl (fun ls hl => ?_)
        refine lv_aload_n hx hb d_Picture_isWanting_23 rfl (lv_at hl 1 rfl) ?_
        refine fg_Picture_71 X hK hw ht d_Picture_isWanting_24 ?_
        refine wd_astore_n (lv' := [(2, va_rf er), (1, .int ((nI k) + 1)), (0, .ref a)]) hx hb d_Picture_isWanting_27 rfl hl (by decide) rfl (fun ls hl => ?_)
        refine lv_goto (tgt := 7) hx hb d_Picture_isWanting_28 (by decide) ?_
        exact ih (k + 1) er ls hm (by rw [hk]; simp only [tk, if_neg c2]; omega) (by rw [nI_succ k]; exact lv_sub hl [0, 1, 2] rfl)
  exact loop L 0 la ls hL (Nat.zero_add _).symm (lv_sub hl [0, 1, 2] rfl)

abbrev rm_Picture_hasEntry : Room := { frames := 0, cells := 0, slots := 0, locals := 0 }
set_option maxHeartbeats 4000000 in
set_option maxRecDepth 100000 in
theorem c_Picture_hasEntry {l : Launch} {D : va_G} {ca : Nat → ClassId} {f : wd_M} (a : Nat) (no : Int32) (du : Int64) (sk wa an en sw : Int32) (la : Option Nat) (ha : f a = some (eP no du sk wa an en sw la)) (L : List TR) (hL : cx f no L la) (x : Int32) : Met l y_Picture_hasEntry (.code y_Picture_hasEntry b_Picture_hasEntry 3 (some .boolean) :: tb) rm_Picture_hasEntry (va_Pc [.ref a, .int x] (wd_pre D classes (ty ca) f)) (vp_Si (zb (hasE x L = true))) 0 0 (fun _ => False) := by
  refine wd_Sz (own := R_Picture) (by decide) rfl (Nat.le_of_ble_eq_true rfl) ?_
  intro p e s m args below meth c Q X hK hw ret ls hl
  have hx := X.1
  have hb := X.2.1
  have hown := X.2.2.2.1
  have hts := X.2.2.2.2
  have hl : lv_has ls 3 [(0, .ref a), (1, .int x)] := hl
  refine lv_aload_n hx hb d_Picture_hasEntry_0 rfl (lv_at hl 0 rfl) ?_
  refine fg_Picture_24 X hK hw ha d_Picture_hasEntry_1 ?_
  refine wd_astore_n (lv' := [(2, va_rf la), (0, .ref a), (1, .int x)]) hx hb d_Picture_hasEntry_4 rfl hl (by decide) rfl (fun ls hl => ?_)
  have loop : ∀ (M : List TR) (r : Option Nat) (ls : Array Slot), cx f no M r → hasE x L = hasE x M → lv_has ls 3 [(2, va_rf r), (1, .int x), (0, .ref a)] → W p l e rm_Picture_hasEntry s m args below meth c s.heap [] 0 0 Q (F0 m 5 ls []) := by
    intro M
    induction M with
    | nil =>
      intro r ls hc hi hl
      have hc : r = none := hc
      subst hc
      have hl : lv_has ls 3 [(2, .null), (1, .int x), (0, .ref a)] := hl
      refine lv_aload_nN hx hb d_Picture_hasEntry_5 rfl (lv_at hl 0 rfl) ?_
      refine lv_ifnullN (tgt := 27) hx hb d_Picture_hasEntry_6 (by decide) ?_
      refine lv_iconst (v := 0) hx hb d_Picture_hasEntry_27 (by decide) ?_
      exact ret _ _ _ d_Picture_hasEntry_28 rfl (Or.inr ⟨by rw [hi]; simp [hasE], rfl⟩)
    | cons t M ih =>
      intro r ls hc hi hl
      obtain ⟨hc, er, ht, hm⟩ := hc
      subst hc
      have hl : lv_has ls 3 [(2, .ref t.1), (1, .int x), (0, .ref a)] := hl
      refine lv_aload_n hx hb d_Picture_hasEntry_5 rfl (lv_at hl 0 rfl) ?_
      refine lv_ifnull hx hb d_Picture_hasEntry_6 ?_
      refine lv_aload_n hx hb d_Picture_hasEntry_9 rfl (lv_at hl 0 rfl) ?_
      refine fg_Picture_61 X hK hw ht d_Picture_hasEntry_10 ?_
      refine lv_iload_n hx hb d_Picture_hasEntry_13 rfl (lv_at hl 1 rfl) ?_
      refine lv_icmp_ne (tgt := 19) hx hb d_Picture_hasEntry_14 (by decide) (fun c1 => ?_) (fun c1 => ?_)
      · skip
        refine lv_aload_n hx hb d_Picture_hasEntry_19 rfl (lv_at hl 0 rfl) ?_
        refine fg_Picture_71 X hK hw ht d_Picture_hasEntry_20 ?_
        refine wd_astore_n (lv' := [(2, va_rf er), (1, .int x), (0, .ref a)]) hx hb d_Picture_hasEntry_23 rfl hl (by decide) rfl (fun ls hl => ?_)
        refine lv_goto (tgt := 5) hx hb d_Picture_hasEntry_24 (by decide) ?_
        exact ih er ls hm (hi.trans (by simp [hasE, c1])) (lv_sub hl [0, 1, 2] rfl)
      · skip
        refine lv_iconst (v := 1) hx hb d_Picture_hasEntry_17 (by decide) ?_
        exact ret _ _ _ d_Picture_hasEntry_18 rfl (Or.inl ⟨hi.trans (by simp [hasE, c1]), rfl⟩)
  exact loop L la ls hL rfl (lv_sub hl [0, 2, 1] rfl)

abbrev rm_Picture_findEntry : Room := { frames := 0, cells := 0, slots := 0, locals := 0 }
set_option maxHeartbeats 4000000 in
set_option maxRecDepth 100000 in
theorem c_Picture_findEntry {l : Launch} {D : va_G} {ca : Nat → ClassId} {f : wd_M} (a : Nat) (no : Int32) (du : Int64) (sk wa an en sw : Int32) (la : Option Nat) (ha : f a = some (eP no du sk wa an en sw la)) (L : List TR) (hL : cx f no L la) (x : Int32) : Met l y_Picture_findEntry (.code y_Picture_findEntry b_Picture_findEntry 3 (some .int) :: tb) rm_Picture_findEntry (va_Pc [.ref a, .int x] (wd_pre D classes (ty ca) f)) (vp_Si (fun r => r = fndE x L)) 0 0 (fun _ => False) := by
  refine wd_Si (own := R_Picture) (by decide) rfl (Nat.le_of_ble_eq_true rfl) ?_
  intro p e s m args below meth c Q X hK hw ret ls hl
  have hx := X.1
  have hb := X.2.1
  have hown := X.2.2.2.1
  have hts := X.2.2.2.2
  have hl : lv_has ls 3 [(0, .ref a), (1, .int x)] := hl
  refine lv_aload_n hx hb d_Picture_findEntry_0 rfl (lv_at hl 0 rfl) ?_
  refine fg_Picture_24 X hK hw ha d_Picture_findEntry_1 ?_
  refine wd_astore_n (lv' := [(2, va_rf la), (0, .ref a), (1, .int x)]) hx hb d_Picture_findEntry_4 rfl hl (by decide) rfl (fun ls hl => ?_)
  have loop : ∀ (M : List TR) (r : Option Nat) (ls : Array Slot), cx f no M r → fndE x L = fndE x M → lv_has ls 3 [(2, va_rf r), (1, .int x), (0, .ref a)] → W p l e rm_Picture_findEntry s m args below meth c s.heap [] 0 0 Q (F0 m 5 ls []) := by
    intro M
    induction M with
    | nil =>
      intro r ls hc hi hl
      have hc : r = none := hc
      subst hc
      have hl : lv_has ls 3 [(2, .null), (1, .int x), (0, .ref a)] := hl
      refine lv_aload_nN hx hb d_Picture_findEntry_5 rfl (lv_at hl 0 rfl) ?_
      refine lv_ifnullN (tgt := 30) hx hb d_Picture_findEntry_6 (by decide) ?_
      refine lv_iconst (v := (-1)) hx hb d_Picture_findEntry_30 (by decide) ?_
      exact ret _ _ _ d_Picture_findEntry_31 (by rw [hi]; rfl)
    | cons t M ih =>
      intro r ls hc hi hl
      obtain ⟨hc, er, ht, hm⟩ := hc
      subst hc
      have hl : lv_has ls 3 [(2, .ref t.1), (1, .int x), (0, .ref a)] := hl
      refine lv_aload_n hx hb d_Picture_findEntry_5 rfl (lv_at hl 0 rfl) ?_
      refine lv_ifnull hx hb d_Picture_findEntry_6 ?_
      refine lv_aload_n hx hb d_Picture_findEntry_9 rfl (lv_at hl 0 rfl) ?_
      refine fg_Picture_68 X hK hw ht d_Picture_findEntry_10 ?_
      refine lv_iload_n hx hb d_Picture_findEntry_13 rfl (lv_at hl 1 rfl) ?_
      refine lv_icmp_ne (tgt := 22) hx hb d_Picture_findEntry_14 (by decide) (fun c1 => ?_) (fun c1 => ?_)
      · skip
        refine lv_aload_n hx hb d_Picture_findEntry_22 rfl (lv_at hl 0 rfl) ?_
        refine fg_Picture_71 X hK hw ht d_Picture_findEntry_23 ?_
        refine wd_astore_n (lv' := [(2, va_rf er), (1, .int x), (0, .ref a)]) hx hb d_Picture_findEntry_26 rfl hl (by decide) rfl (fun ls hl => ?_)
        refine lv_goto (tgt := 5) hx hb d_Picture_findEntry_27 (by decide) ?_
        exact ih er ls hm (hi.trans (if_neg c1)) (lv_sub hl [0, 1, 2] rfl)
      · skip
        refine lv_aload_n hx hb d_Picture_findEntry_17 rfl (lv_at hl 0 rfl) ?_
        refine fg_Picture_61 X hK hw ht d_Picture_findEntry_18 ?_
        exact ret _ _ _ d_Picture_findEntry_21 (by rw [hi]; exact (if_pos c1).symm)
  exact loop L la ls hL rfl (lv_sub hl [0, 2, 1] rfl)

abbrev rm_Picture_isBarredBy : Room := { frames := 0, cells := 0, slots := 0, locals := 0 }
set_option maxHeartbeats 4000000 in
set_option maxRecDepth 100000 in
theorem c_Picture_isBarredBy {l : Launch} {D : va_G} {ca : Nat → ClassId} {f : wd_M} (a : Nat) (no : Int32) (du : Int64) (sk wa an en sw : Int32) (la : Option Nat) (ha : f a = some (eP no du sk wa an en sw la)) (b : Nat) (kn ki ko ks : Int32) (kt : Option Nat) (hk : f b = some (eK kn ki ko ks kt)) (L : List TR) (hL : cx f no L la) : Met l y_Picture_isBarredBy (.code y_Picture_isBarredBy b_Picture_isBarredBy 4 (some .boolean) :: tb) rm_Picture_isBarredBy (va_Pc [.ref a, .ref b] (wd_pre D classes (ty ca) f)) (vp_Si (zb (bar kn ko wa L = true))) 0 0 (fun _ => False) := by
  refine wd_Sz (own := R_Picture) (by decide) rfl (Nat.le_of_ble_eq_true rfl) ?_
  intro p e s m args below meth c Q X hK hw ret ls hl
  have hx := X.1
  have hb := X.2.1
  have hown := X.2.2.2.1
  have hts := X.2.2.2.2
  have hl : lv_has ls 4 [(0, .ref a), (1, .ref b)] := hl
  refine lv_aload_n hx hb d_Picture_isBarredBy_0 rfl (lv_at hl 0 rfl) ?_
  refine fg_Picture_24 X hK hw ha d_Picture_isBarredBy_1 ?_
  refine wd_astore_n (lv' := [(2, va_rf la), (0, .ref a), (1, .ref b)]) hx hb d_Picture_isBarredBy_4 rfl hl (by decide) rfl (fun ls hl => ?_)
  have loop : ∀ (M : List TR) (r : Option Nat) (ls : Array Slot), cx f no M r → bar kn ko wa L = bar kn ko wa M → lv_has ls 4 [(2, va_rf r), (1, .ref b), (0, .ref a)] → W p l e rm_Picture_isBarredBy s m args below meth c s.heap [] 0 0 Q (F0 m 5 ls []) := by
    intro M
    induction M with
    | nil =>
      intro r ls hc hi hl
      have hc : r = none := hc
      subst hc
      have hl : lv_has ls 4 [(2, .null), (1, .ref b), (0, .ref a)] := hl
      refine lv_aload_nN hx hb d_Picture_isBarredBy_5 rfl (lv_at hl 0 rfl) ?_
      refine lv_ifnullN (tgt := 68) hx hb d_Picture_isBarredBy_6 (by decide) ?_
      refine lv_iconst (v := 0) hx hb d_Picture_isBarredBy_68 (by decide) ?_
      exact ret _ _ _ d_Picture_isBarredBy_69 rfl (Or.inr ⟨by rw [hi]; simp [bar], rfl⟩)
    | cons t M ih =>
      intro r ls hc hi hl
      obtain ⟨hc, er, ht, hm⟩ := hc
      subst hc
      have hl : lv_has ls 4 [(2, .ref t.1), (1, .ref b), (0, .ref a)] := hl
      refine lv_aload_n hx hb d_Picture_isBarredBy_5 rfl (lv_at hl 0 rfl) ?_
      refine lv_ifnull hx hb d_Picture_isBarredBy_6 ?_
      refine lv_aload_n hx hb d_Picture_isBarredBy_9 rfl (lv_at hl 0 rfl) ?_
      refine fg_Picture_74 X hK hw ht d_Picture_isBarredBy_10 ?_
      refine lv_aload_n hx hb d_Picture_isBarredBy_13 rfl (lv_at hl 1 rfl) ?_
      refine fg_Picture_77 X hK hw hk d_Picture_isBarredBy_14 ?_
      refine lv_icmp_ne (tgt := 33) hx hb d_Picture_isBarredBy_17 (by decide) (fun c1 => ?_) (fun c1 => ?_)
      · skip
        refine lv_iconst (v := 0) hx hb d_Picture_isBarredBy_33 (by decide) ?_
        refine lv_istore_n (lv' := [(3, .int 0), (2, .ref t.1), (1, .ref b), (0, .ref a)]) hx hb d_Picture_isBarredBy_34 rfl hl (by decide) rfl (fun ls hl => ?_)
        refine lv_aload_n hx hb d_Picture_isBarredBy_35 rfl (lv_at hl 1 rfl) ?_
        refine fg_Picture_68 X hK hw ht d_Picture_isBarredBy_36 ?_
        refine lv_aload_n hx hb d_Picture_isBarredBy_39 rfl (lv_at hl 2 rfl) ?_
        refine fg_Picture_78 X hK hw hk d_Picture_isBarredBy_40 ?_
        refine lv_icmp_eq (tgt := 58) hx hb d_Picture_isBarredBy_43 (by decide) (fun c2 => ?_) (fun c2 => ?_)
        · skip
          refine lv_iconst (v := 1) hx hb d_Picture_isBarredBy_58 (by decide) ?_
          exact ret _ _ _ d_Picture_isBarredBy_59 rfl (Or.inl ⟨hi.trans (by simp [bar, c1, c2]), rfl⟩)
        · skip
          refine lv_iload_n hx hb d_Picture_isBarredBy_46 rfl (lv_at hl 0 rfl) ?_
          refine lv_if_eq (tgt := 60) hx hb d_Picture_isBarredBy_47 (by decide) (fun c3 => ?_) (fun c3 => ?_)
          · skip
            refine lv_aload_n hx hb d_Picture_isBarredBy_60 rfl (lv_at hl 1 rfl) ?_
            refine fg_Picture_71 X hK hw ht d_Picture_isBarredBy_61 ?_
            refine wd_astore_n (lv' := [(2, va_rf er), (3, .int 0), (1, .ref b), (0, .ref a)]) hx hb d_Picture_isBarredBy_64 rfl hl (by decide) rfl (fun ls hl => ?_)
            refine lv_goto (tgt := 5) hx hb d_Picture_isBarredBy_65 (by decide) ?_
            exact ih er ls hm (hi.trans (by simp [bar, c1, c2])) (lv_sub hl [0, 2, 3] rfl)
          · exact absurd c3 (by decide)
      · skip
        refine lv_aload_n hx hb d_Picture_isBarredBy_20 rfl (lv_at hl 0 rfl) ?_
        refine fg_Picture_61 X hK hw ht d_Picture_isBarredBy_21 ?_
        refine lv_bipush (v := (-2)) hx hb d_Picture_isBarredBy_24 (by decide) ?_
        refine lv_icmp_eq (tgt := 33) hx hb d_Picture_isBarredBy_26 (by decide) (fun c4 => ?_) (fun c4 => ?_)
        · skip
          refine lv_iconst (v := 0) hx hb d_Picture_isBarredBy_33 (by decide) ?_
          refine lv_istore_n (lv' := [(3, .int 0), (2, .ref t.1), (1, .ref b), (0, .ref a)]) hx hb d_Picture_isBarredBy_34 rfl hl (by decide) rfl (fun ls hl => ?_)
          refine lv_aload_n hx hb d_Picture_isBarredBy_35 rfl (lv_at hl 1 rfl) ?_
          refine fg_Picture_68 X hK hw ht d_Picture_isBarredBy_36 ?_
          refine lv_aload_n hx hb d_Picture_isBarredBy_39 rfl (lv_at hl 2 rfl) ?_
          refine fg_Picture_78 X hK hw hk d_Picture_isBarredBy_40 ?_
          refine lv_icmp_eq (tgt := 58) hx hb d_Picture_isBarredBy_43 (by decide) (fun c5 => ?_) (fun c5 => ?_)
          · skip
            refine lv_iconst (v := 1) hx hb d_Picture_isBarredBy_58 (by decide) ?_
            exact ret _ _ _ d_Picture_isBarredBy_59 rfl (Or.inl ⟨hi.trans (by simp [bar, c1, c4, c5]), rfl⟩)
          · skip
            refine lv_iload_n hx hb d_Picture_isBarredBy_46 rfl (lv_at hl 0 rfl) ?_
            refine lv_if_eq (tgt := 60) hx hb d_Picture_isBarredBy_47 (by decide) (fun c6 => ?_) (fun c6 => ?_)
            · skip
              refine lv_aload_n hx hb d_Picture_isBarredBy_60 rfl (lv_at hl 1 rfl) ?_
              refine fg_Picture_71 X hK hw ht d_Picture_isBarredBy_61 ?_
              refine wd_astore_n (lv' := [(2, va_rf er), (3, .int 0), (1, .ref b), (0, .ref a)]) hx hb d_Picture_isBarredBy_64 rfl hl (by decide) rfl (fun ls hl => ?_)
              refine lv_goto (tgt := 5) hx hb d_Picture_isBarredBy_65 (by decide) ?_
              exact ih er ls hm (hi.trans (by simp [bar, c1, c4, c5])) (lv_sub hl [0, 2, 3] rfl)
            · exact absurd c6 (by decide)
        · skip
          refine lv_iconst (v := 1) hx hb d_Picture_isBarredBy_29 (by decide) ?_
          refine lv_goto (tgt := 34) hx hb d_Picture_isBarredBy_30 (by decide) ?_
          refine lv_istore_n (lv' := [(3, .int 1), (2, .ref t.1), (1, .ref b), (0, .ref a)]) hx hb d_Picture_isBarredBy_34 rfl hl (by decide) rfl (fun ls hl => ?_)
          refine lv_aload_n hx hb d_Picture_isBarredBy_35 rfl (lv_at hl 1 rfl) ?_
          refine fg_Picture_68 X hK hw ht d_Picture_isBarredBy_36 ?_
          refine lv_aload_n hx hb d_Picture_isBarredBy_39 rfl (lv_at hl 2 rfl) ?_
          refine fg_Picture_78 X hK hw hk d_Picture_isBarredBy_40 ?_
          refine lv_icmp_eq (tgt := 58) hx hb d_Picture_isBarredBy_43 (by decide) (fun c7 => ?_) (fun c7 => ?_)
          · skip
            refine lv_iconst (v := 1) hx hb d_Picture_isBarredBy_58 (by decide) ?_
            exact ret _ _ _ d_Picture_isBarredBy_59 rfl (Or.inl ⟨hi.trans (by simp [bar, c1, c4, c7]), rfl⟩)
          · skip
            refine lv_iload_n hx hb d_Picture_isBarredBy_46 rfl (lv_at hl 0 rfl) ?_
            refine lv_if_eq (tgt := 60) hx hb d_Picture_isBarredBy_47 (by decide) (fun c8 => ?_) (fun c8 => ?_)
            · exact absurd c8 (by decide)
            · skip
              refine lv_aload_n hx hb d_Picture_isBarredBy_50 rfl (lv_at hl 3 rfl) ?_
              refine fg_Picture_9 X hK hw ha d_Picture_isBarredBy_51 ?_
              refine lv_iconst (v := 2) hx hb d_Picture_isBarredBy_54 (by decide) ?_
              refine lv_icmp_ne (tgt := 60) hx hb d_Picture_isBarredBy_55 (by decide) (fun c9 => ?_) (fun c9 => ?_)
              · skip
                refine lv_aload_n hx hb d_Picture_isBarredBy_60 rfl (lv_at hl 1 rfl) ?_
                refine fg_Picture_71 X hK hw ht d_Picture_isBarredBy_61 ?_
                refine wd_astore_n (lv' := [(2, va_rf er), (3, .int 1), (1, .ref b), (0, .ref a)]) hx hb d_Picture_isBarredBy_64 rfl hl (by decide) rfl (fun ls hl => ?_)
                refine lv_goto (tgt := 5) hx hb d_Picture_isBarredBy_65 (by decide) ?_
                exact ih er ls hm (hi.trans (by simp [bar, c1, c4, c7, c9])) (lv_sub hl [0, 2, 3] rfl)
              · skip
                refine lv_iconst (v := 1) hx hb d_Picture_isBarredBy_58 (by decide) ?_
                exact ret _ _ _ d_Picture_isBarredBy_59 rfl (Or.inl ⟨hi.trans (by simp [bar, c1, c4, c7, c9]), rfl⟩)
  exact loop L la ls hL rfl (lv_sub hl [0, 2, 1] rfl)

