set_option maxHeartbeats 4000000 in
set_option maxRecDepth 100000 in
/-- the law at its loop's head: cn calls are done on both sides -/
theorem law_loop {p : Program} {l : Launch} {e : Env} {s : State} {m : MethodId} {below : List Frame} {meth : Method} {c : Code} {D : va_G} {ca : Nat → ClassId} {sb L : Nat} {xs : Nat → Int32} (hL : L ≤ 3073) (C0 : lw_At p s m meth c sb L xs) (hK : va_K D classes (ty ca) s) : ∀ (mm cn i xa mb : Nat) (fc fm : wd_M) (H : Heap) (locs : List Loc) (ls : Array Slot), i = 1 + 6 * cn → cn ≤ 512 → 512 ≤ cn + mm → JR fc fm ca xa mb → wd_J D classes (fun q : Nat => s.heap.size ≤ q) s.heap fc fm H locs → lv_has ls 4 [(0, .ref sb), (1, .ref xa), (2, .ref mb), (3, .int (nI i))] → W p l e room_1 s m #[Value.ref sb] below meth c H locs (36 + cn) (20971 + 8 * cn) (lw_Z below #[Value.ref sb] s) (F0 m 28 ls []) := by
  obtain ⟨hx, hb, hr, hml, hown, hts0, hX, hbl, hlocks, hgv⟩ := C0
  have hts : ∀ w ∈ tb, w.before #[Value.ref sb] s = true := fun w h => hts0 w (tb_sub h)
  have X : CallFix p m c code 4 s #[Value.ref sb] tb R_Law := ⟨hx, hb, hml, hown, hts⟩
  intro mm
  induction mm with
  | zero =>
    intro cn i xa mb fc fm H locs ls hi hc1 hc2 hJR hj hl
    have hex : ¬ i + 6 ≤ L := by omega
    refine lv_iload_n hx hb d_Law_law_28 rfl (lv_at hl 3 rfl) ?_
    refine lv_aload_n hx hb d_Law_law_29 rfl (lv_at hl 0 rfl) ?_
    refine va_slen hx hb hX hbl (Nat.not_le.mpr hbl) hj.1.2.1 d_Law_law_30 ?_
    refine lv_bipush (v := 6) hx hb d_Law_law_31 (by decide) ?_
    refine lv_isub hx hb d_Law_law_33 ?_
    refine lv_icmp_gt (tgt := 533) hx hb d_Law_law_34 (by decide) (fun _ => ?_) (fun c => absurd ((len_ex hL (by omega)).mpr hex) c)
    refine lv_iconst (v := 1) hx hb d_Law_law_533 (by decide) ?_
    have hS := hj.1.2.1
    refine va_forget (fun q hq => hS.2.2 q hq) ?_
    refine W.widen (k := 600000) (n := 7302250) (by omega) (by omega) ?_
    exact lw_ret hx hb hr hlocks d_Law_law_534
  | succ mm ih =>
    intro cn i xa mb fc fm H locs ls hi hc1 hc2 hJR hj hl
    by_cases hex : i + 6 ≤ L
    · skip
      obtain ⟨mo, nw, lt, n, P, K, AD, th, du, g, ⟨pa, ka, gp, gk, h1, h2, h3, h4, h5, h6⟩, hM, hS⟩ := id hJR
      refine lv_iload_n hx hb d_Law_law_28 rfl (lv_at hl 3 rfl) ?_
      refine lv_aload_n hx hb d_Law_law_29 rfl (lv_at hl 0 rfl) ?_
      refine va_slen hx hb hX hbl (Nat.not_le.mpr hbl) hj.1.2.1 d_Law_law_30 ?_
      refine lv_bipush (v := 6) hx hb d_Law_law_31 (by decide) ?_
      refine lv_isub hx hb d_Law_law_33 ?_
      refine lv_icmp_gt (tgt := 533) hx hb d_Law_law_34 (by decide) (fun c => absurd hex ((len_ex hL (by omega)).mp c)) (fun _ => ?_)
      refine lv_aload_n hx hb d_Law_law_37 rfl (lv_at hl 0 rfl) ?_
      refine lv_iload_n hx hb d_Law_law_38 rfl (lv_at hl 3 rfl) ?_
      refine lw_ld hx hb hX hbl hj.1.2.1 (j := i) (by omega) hL d_Law_law_39 ?_
      refine lv_bipush (v := 15) hx hb d_Law_law_40 (by decide) ?_
      refine lv_iand hx hb d_Law_law_42 ?_
      obtain ⟨v, hv, ev⟩ := pk_andE (xs i) (m := 15) 4 (by decide)
      rw [ev]
      rcases (show v = 0 ∨ v = 1 ∨ v = 2 ∨ v = 3 ∨ v = 4 ∨ v = 5 ∨ v = 6 ∨ v = 7 ∨ v = 8 ∨ v = 9 ∨ 10 ≤ v by omega) with rfl | rfl | rfl | rfl | rfl | rfl | rfl | rfl | rfl | rfl | hv10
      · skip
        refine lv_tableIn (tgt := 96) hx hb d_Law_law_43 (by decide) (by decide) rfl (by decide) ?_
        refine lv_aload_n hx hb d_Law_law_96 rfl (lv_at hl 1 rfl) ?_
        refine lv_aload_n hx hb d_Law_law_97 rfl (lv_at hl 0 rfl) ?_
        refine lv_iload_n hx hb d_Law_law_98 rfl (lv_at hl 3 rfl) ?_
        refine lv_iconst (v := 1) hx hb d_Law_law_99 (by decide) ?_
        refine lv_iadd hx hb d_Law_law_100 ?_
        rw [ik1 i]
        refine lw_ld hx hb hX hbl hj.1.2.1 (j := i + 1) (by omega) hL d_Law_law_101 ?_
        refine lv_i2l hx hb d_Law_law_102 rfl ?_
        refine lv_bipush (v := 32) hx hb d_Law_law_103 (by decide) ?_
        refine lv_lshl hx hb d_Law_law_105 rfl ?_
        refine lv_aload_n hx hb d_Law_law_106 rfl (lv_at hl 0 rfl) ?_
        refine lv_iload_n hx hb d_Law_law_107 rfl (lv_at hl 3 rfl) ?_
        refine lv_iconst (v := 2) hx hb d_Law_law_108 (by decide) ?_
        refine lv_iadd hx hb d_Law_law_109 ?_
        rw [ik2 i]
        refine lw_ld hx hb hX hbl hj.1.2.1 (j := i + 2) (by omega) hL d_Law_law_110 ?_
        refine lv_i2l hx hb d_Law_law_111 rfl ?_
        refine lv_ldc2 (v := 4294967295) hx hb hown (hts _ k_Law_21) d_Law_law_112 ?_
        refine lv_land hx hb d_Law_law_115 ?_
        refine lv_lor hx hb d_Law_law_116 ?_
        refine lv_aload_n hx hb d_Law_law_117 rfl (lv_at hl 0 rfl) ?_
        refine lv_iload_n hx hb d_Law_law_118 rfl (lv_at hl 3 rfl) ?_
        refine lv_iconst (v := 3) hx hb d_Law_law_119 (by decide) ?_
        refine lv_iadd hx hb d_Law_law_120 ?_
        rw [ik3 i]
        refine lw_ld hx hb hX hbl hj.1.2.1 (j := i + 3) (by omega) hL d_Law_law_121 ?_
        refine wd_jvi (As := [.long ((((xs (i + 1))).toInt64 <<< ((32 : Int32).toInt64 &&& 63)) ||| (((xs (i + 2))).toInt64 &&& 4294967295)), .int (xs (i + 3))]) (rest := []) X hK hj (c_ClerkRows_picture xa mo pa ka n nw lt h1 gp h2 P h4 ((((xs (i + 1))).toInt64 <<< ((32 : Int32).toInt64 &&& 63)) ||| (((xs (i + 2))).toInt64 &&& 4294967295)) (xs (i + 3))) (cw_Law_23 hts rfl rfl ⟨(Nat.le_of_ble_eq_true rfl), (Nat.le_of_ble_eq_true rfl)⟩) h1 rfl rfl rfl hl.1 rfl (Nat.le_of_ble_eq_true rfl) d_Law_law_122 ⟨by show _ ≤ 600000; omega, by show _ ≤ 7302250; omega⟩ (fun r1 fc1 H locs p1 hj => ?_)
        refine lv_aload_n hx hb d_Law_law_125 rfl (lv_at hl 2 rfl) ?_
        refine lv_aload_n hx hb d_Law_law_126 rfl (lv_at hl 0 rfl) ?_
        refine lv_iload_n hx hb d_Law_law_127 rfl (lv_at hl 3 rfl) ?_
        refine lv_iconst (v := 1) hx hb d_Law_law_128 (by decide) ?_
        refine lv_iadd hx hb d_Law_law_129 ?_
        rw [ik1 i]
        refine lw_ld hx hb hX hbl hj.1.2.1 (j := i + 1) (by omega) hL d_Law_law_130 ?_
        refine lv_i2l hx hb d_Law_law_131 rfl ?_
        refine lv_bipush (v := 32) hx hb d_Law_law_132 (by decide) ?_
        refine lv_lshl hx hb d_Law_law_134 rfl ?_
        refine lv_aload_n hx hb d_Law_law_135 rfl (lv_at hl 0 rfl) ?_
        refine lv_iload_n hx hb d_Law_law_136 rfl (lv_at hl 3 rfl) ?_
        refine lv_iconst (v := 2) hx hb d_Law_law_137 (by decide) ?_
        refine lv_iadd hx hb d_Law_law_138 ?_
        rw [ik2 i]
        refine lw_ld hx hb hX hbl hj.1.2.1 (j := i + 2) (by omega) hL d_Law_law_139 ?_
        refine lv_i2l hx hb d_Law_law_140 rfl ?_
        refine lv_ldc2 (v := 4294967295) hx hb hown (hts _ k_Law_21) d_Law_law_141 ?_
        refine lv_land hx hb d_Law_law_144 ?_
        refine lv_lor hx hb d_Law_law_145 ?_
        refine lv_aload_n hx hb d_Law_law_146 rfl (lv_at hl 0 rfl) ?_
        refine lv_iload_n hx hb d_Law_law_147 rfl (lv_at hl 3 rfl) ?_
        refine lv_iconst (v := 3) hx hb d_Law_law_148 (by decide) ?_
        refine lv_iadd hx hb d_Law_law_149 ?_
        rw [ik3 i]
        refine lw_ld hx hb hX hbl hj.1.2.1 (j := i + 3) (by omega) hL d_Law_law_150 ?_
        refine wd_jvi (As := [.long ((((xs (i + 1))).toInt64 <<< ((32 : Int32).toInt64 &&& 63)) ||| (((xs (i + 2))).toInt64 &&& 4294967295)), .int (xs (i + 3))]) (rest := [.int r1]) X hK hj.swap (c_Model_picture mb AD th mo n nw lt du g hM ((((xs (i + 1))).toInt64 <<< ((32 : Int32).toInt64 &&& 63)) ||| (((xs (i + 2))).toInt64 &&& 4294967295)) (xs (i + 3))) (cw_Law_27 hts rfl rfl ⟨(Nat.le_of_ble_eq_true rfl), (Nat.le_of_ble_eq_true rfl)⟩) hM.1 rfl rfl rfl hl.1 rfl (Nat.le_of_ble_eq_true rfl) d_Law_law_151 ⟨by show _ ≤ 600000; omega, by show _ ≤ 7302250; omega⟩ (fun r2 fm1 H locs p2 hj => ?_)
        have hj := hj.swap
        obtain ⟨er, hJ⟩ := J_picture h1 h2 h3 h4 h5 h6 hM hS p1 p2
        refine lv_icmp_eq (tgt := 527) hx hb d_Law_law_154 (by decide) (fun _ => ?_) (fun c => absurd er c)
        refine lv_iinc (v := nI (i + 6)) (lv' := [(3, .int (nI (i + 6))), (0, .ref sb), (1, .ref xa), (2, .ref mb)]) hx hb d_Law_law_527 hl (k := 3) rfl (ik6 i) (by decide) rfl (fun ls hl => ?_)
        refine lv_goto (tgt := 28) hx hb d_Law_law_530 (by decide) ?_
        refine W.widen (k := 36 + (cn + 1)) (n := 20971 + 8 * (cn + 1)) (by omega) (by omega) ?_
        exact ih (cn + 1) (i + 6) xa mb fc1 fm1 _ _ ls (by omega) (by omega) (by omega) hJ hj (lv_sub hl [1, 2, 3, 0] rfl)
      · skip
        refine lv_tableIn (tgt := 159) hx hb d_Law_law_43 (by decide) (by decide) rfl (by decide) ?_
        refine lv_aload_n hx hb d_Law_law_159 rfl (lv_at hl 1 rfl) ?_
        refine lv_aload_n hx hb d_Law_law_160 rfl (lv_at hl 0 rfl) ?_
        refine lv_iload_n hx hb d_Law_law_161 rfl (lv_at hl 3 rfl) ?_
        refine lv_iconst (v := 1) hx hb d_Law_law_162 (by decide) ?_
        refine lv_iadd hx hb d_Law_law_163 ?_
        rw [ik1 i]
        refine lw_ld hx hb hX hbl hj.1.2.1 (j := i + 1) (by omega) hL d_Law_law_164 ?_
        refine lv_aload_n hx hb d_Law_law_165 rfl (lv_at hl 0 rfl) ?_
        refine lv_iload_n hx hb d_Law_law_166 rfl (lv_at hl 3 rfl) ?_
        refine lv_iconst (v := 2) hx hb d_Law_law_167 (by decide) ?_
        refine lv_iadd hx hb d_Law_law_168 ?_
        rw [ik2 i]
        refine lw_ld hx hb hX hbl hj.1.2.1 (j := i + 2) (by omega) hL d_Law_law_169 ?_
        refine lv_i2l hx hb d_Law_law_170 rfl ?_
        refine lv_bipush (v := 32) hx hb d_Law_law_171 (by decide) ?_
        refine lv_lshl hx hb d_Law_law_173 rfl ?_
        refine lv_aload_n hx hb d_Law_law_174 rfl (lv_at hl 0 rfl) ?_
        refine lv_iload_n hx hb d_Law_law_175 rfl (lv_at hl 3 rfl) ?_
        refine lv_iconst (v := 3) hx hb d_Law_law_176 (by decide) ?_
        refine lv_iadd hx hb d_Law_law_177 ?_
        rw [ik3 i]
        refine lw_ld hx hb hX hbl hj.1.2.1 (j := i + 3) (by omega) hL d_Law_law_178 ?_
        refine lv_i2l hx hb d_Law_law_179 rfl ?_
        refine lv_ldc2 (v := 4294967295) hx hb hown (hts _ k_Law_21) d_Law_law_180 ?_
        refine lv_land hx hb d_Law_law_183 ?_
        refine lv_lor hx hb d_Law_law_184 ?_
        refine wd_jvi (As := [.int (xs (i + 1)), .long ((((xs (i + 2))).toInt64 <<< ((32 : Int32).toInt64 &&& 63)) ||| (((xs (i + 3))).toInt64 &&& 4294967295))]) (rest := []) X hK hj (c_ClerkRows_give xa mo pa ka (nI n) nw lt h1 gp h2 n P h4 gk K h3 h5 (xs (i + 1)) ((((xs (i + 2))).toInt64 <<< ((32 : Int32).toInt64 &&& 63)) ||| (((xs (i + 3))).toInt64 &&& 4294967295))) (cw_Law_28 hts rfl rfl ⟨(Nat.le_of_ble_eq_true rfl), (Nat.le_of_ble_eq_true rfl)⟩) h1 rfl rfl rfl hl.1 rfl (Nat.le_of_ble_eq_true rfl) d_Law_law_185 ⟨by show _ ≤ 600000; omega, by show _ ≤ 7302250; omega⟩ (fun r1 fc1 H locs p1 hj => ?_)
        refine lv_aload_n hx hb d_Law_law_188 rfl (lv_at hl 2 rfl) ?_
        refine lv_aload_n hx hb d_Law_law_189 rfl (lv_at hl 0 rfl) ?_
        refine lv_iload_n hx hb d_Law_law_190 rfl (lv_at hl 3 rfl) ?_
        refine lv_iconst (v := 1) hx hb d_Law_law_191 (by decide) ?_
        refine lv_iadd hx hb d_Law_law_192 ?_
        rw [ik1 i]
        refine lw_ld hx hb hX hbl hj.1.2.1 (j := i + 1) (by omega) hL d_Law_law_193 ?_
        refine lv_aload_n hx hb d_Law_law_194 rfl (lv_at hl 0 rfl) ?_
        refine lv_iload_n hx hb d_Law_law_195 rfl (lv_at hl 3 rfl) ?_
        refine lv_iconst (v := 2) hx hb d_Law_law_196 (by decide) ?_
        refine lv_iadd hx hb d_Law_law_197 ?_
        rw [ik2 i]
        refine lw_ld hx hb hX hbl hj.1.2.1 (j := i + 2) (by omega) hL d_Law_law_198 ?_
        refine lv_i2l hx hb d_Law_law_199 rfl ?_
        refine lv_bipush (v := 32) hx hb d_Law_law_200 (by decide) ?_
        refine lv_lshl hx hb d_Law_law_202 rfl ?_
        refine lv_aload_n hx hb d_Law_law_203 rfl (lv_at hl 0 rfl) ?_
        refine lv_iload_n hx hb d_Law_law_204 rfl (lv_at hl 3 rfl) ?_
        refine lv_iconst (v := 3) hx hb d_Law_law_205 (by decide) ?_
        refine lv_iadd hx hb d_Law_law_206 ?_
        rw [ik3 i]
        refine lw_ld hx hb hX hbl hj.1.2.1 (j := i + 3) (by omega) hL d_Law_law_207 ?_
        refine lv_i2l hx hb d_Law_law_208 rfl ?_
        refine lv_ldc2 (v := 4294967295) hx hb hown (hts _ k_Law_21) d_Law_law_209 ?_
        refine lv_land hx hb d_Law_law_212 ?_
        refine lv_lor hx hb d_Law_law_213 ?_
        refine wd_jvi (As := [.int (xs (i + 1)), .long ((((xs (i + 2))).toInt64 <<< ((32 : Int32).toInt64 &&& 63)) ||| (((xs (i + 3))).toInt64 &&& 4294967295))]) (rest := [.int r1]) X hK hj.swap (c_Model_give mb AD th mo n nw lt du g hM (xs (i + 1)) ((((xs (i + 2))).toInt64 <<< ((32 : Int32).toInt64 &&& 63)) ||| (((xs (i + 3))).toInt64 &&& 4294967295))) (cw_Law_32 hts rfl rfl ⟨(Nat.le_of_ble_eq_true rfl), (Nat.le_of_ble_eq_true rfl)⟩) hM.1 rfl rfl rfl hl.1 rfl (Nat.le_of_ble_eq_true rfl) d_Law_law_214 ⟨by show _ ≤ 600000; omega, by show _ ≤ 7302250; omega⟩ (fun r2 fm1 H locs p2 hj => ?_)
        have hj := hj.swap
        obtain ⟨er, hJ⟩ := J_give h1 h2 h3 h4 h5 h6 hM hS p1 p2
        refine lv_icmp_eq (tgt := 527) hx hb d_Law_law_217 (by decide) (fun _ => ?_) (fun c => absurd er c)
        refine lv_iinc (v := nI (i + 6)) (lv' := [(3, .int (nI (i + 6))), (0, .ref sb), (1, .ref xa), (2, .ref mb)]) hx hb d_Law_law_527 hl (k := 3) rfl (ik6 i) (by decide) rfl (fun ls hl => ?_)
        refine lv_goto (tgt := 28) hx hb d_Law_law_530 (by decide) ?_
        refine W.widen (k := 36 + (cn + 1)) (n := 20971 + 8 * (cn + 1)) (by omega) (by omega) ?_
        exact ih (cn + 1) (i + 6) xa mb fc1 fm1 _ _ ls (by omega) (by omega) (by omega) hJ hj (lv_sub hl [1, 2, 3, 0] rfl)
      · skip
        refine lv_tableIn (tgt := 222) hx hb d_Law_law_43 (by decide) (by decide) rfl (by decide) ?_
        refine lv_aload_n hx hb d_Law_law_222 rfl (lv_at hl 1 rfl) ?_
        refine lv_aload_n hx hb d_Law_law_223 rfl (lv_at hl 0 rfl) ?_
        refine lv_iload_n hx hb d_Law_law_224 rfl (lv_at hl 3 rfl) ?_
        refine lv_iconst (v := 1) hx hb d_Law_law_225 (by decide) ?_
        refine lv_iadd hx hb d_Law_law_226 ?_
        rw [ik1 i]
        refine lw_ld hx hb hX hbl hj.1.2.1 (j := i + 1) (by omega) hL d_Law_law_227 ?_
        refine lv_aload_n hx hb d_Law_law_228 rfl (lv_at hl 0 rfl) ?_
        refine lv_iload_n hx hb d_Law_law_229 rfl (lv_at hl 3 rfl) ?_
        refine lv_iconst (v := 2) hx hb d_Law_law_230 (by decide) ?_
        refine lv_iadd hx hb d_Law_law_231 ?_
        rw [ik2 i]
        refine lw_ld hx hb hX hbl hj.1.2.1 (j := i + 2) (by omega) hL d_Law_law_232 ?_
        refine lv_aload_n hx hb d_Law_law_233 rfl (lv_at hl 0 rfl) ?_
        refine lv_iload_n hx hb d_Law_law_234 rfl (lv_at hl 3 rfl) ?_
        refine lv_iconst (v := 3) hx hb d_Law_law_235 (by decide) ?_
        refine lv_iadd hx hb d_Law_law_236 ?_
        rw [ik3 i]
        refine lw_ld hx hb hX hbl hj.1.2.1 (j := i + 3) (by omega) hL d_Law_law_237 ?_
        refine lv_aload_n hx hb d_Law_law_238 rfl (lv_at hl 0 rfl) ?_
        refine lv_iload_n hx hb d_Law_law_239 rfl (lv_at hl 3 rfl) ?_
        refine lv_iconst (v := 4) hx hb d_Law_law_240 (by decide) ?_
        refine lv_iadd hx hb d_Law_law_241 ?_
        rw [ik4 i]
        refine lw_ld hx hb hX hbl hj.1.2.1 (j := i + 4) (by omega) hL d_Law_law_242 ?_
        refine lv_i2l hx hb d_Law_law_243 rfl ?_
        refine lv_bipush (v := 32) hx hb d_Law_law_244 (by decide) ?_
        refine lv_lshl hx hb d_Law_law_246 rfl ?_
        refine lv_aload_n hx hb d_Law_law_247 rfl (lv_at hl 0 rfl) ?_
        refine lv_iload_n hx hb d_Law_law_248 rfl (lv_at hl 3 rfl) ?_
        refine lv_iconst (v := 5) hx hb d_Law_law_249 (by decide) ?_
        refine lv_iadd hx hb d_Law_law_250 ?_
        rw [ik5 i]
        refine lw_ld hx hb hX hbl hj.1.2.1 (j := i + 5) (by omega) hL d_Law_law_251 ?_
        refine lv_i2l hx hb d_Law_law_252 rfl ?_
        refine lv_ldc2 (v := 4294967295) hx hb hown (hts _ k_Law_21) d_Law_law_253 ?_
        refine lv_land hx hb d_Law_law_256 ?_
        refine lv_lor hx hb d_Law_law_257 ?_
        refine wd_jvi (As := [.int (xs (i + 1)), .int (xs (i + 2)), .int (xs (i + 3)), .long ((((xs (i + 4))).toInt64 <<< ((32 : Int32).toInt64 &&& 63)) ||| (((xs (i + 5))).toInt64 &&& 4294967295))]) (rest := []) X hK hj (c_ClerkRows_answer xa mo pa ka (nI n) nw lt h1 gp h2 n P h4 gk K h3 h5 (hT_of h4 hS) (xs (i + 1)) (xs (i + 2)) (xs (i + 3)) ((((xs (i + 4))).toInt64 <<< ((32 : Int32).toInt64 &&& 63)) ||| (((xs (i + 5))).toInt64 &&& 4294967295))) (cw_Law_33 hts rfl rfl ⟨(Nat.le_of_ble_eq_true rfl), (Nat.le_of_ble_eq_true rfl)⟩) h1 rfl rfl rfl hl.1 rfl (Nat.le_of_ble_eq_true rfl) d_Law_law_258 ⟨by show _ ≤ 600000; omega, by show _ ≤ 7302250; omega⟩ (fun r1 fc1 H locs p1 hj => ?_)
        refine lv_aload_n hx hb d_Law_law_261 rfl (lv_at hl 2 rfl) ?_
        refine lv_aload_n hx hb d_Law_law_262 rfl (lv_at hl 0 rfl) ?_
        refine lv_iload_n hx hb d_Law_law_263 rfl (lv_at hl 3 rfl) ?_
        refine lv_iconst (v := 1) hx hb d_Law_law_264 (by decide) ?_
        refine lv_iadd hx hb d_Law_law_265 ?_
        rw [ik1 i]
        refine lw_ld hx hb hX hbl hj.1.2.1 (j := i + 1) (by omega) hL d_Law_law_266 ?_
        refine lv_aload_n hx hb d_Law_law_267 rfl (lv_at hl 0 rfl) ?_
        refine lv_iload_n hx hb d_Law_law_268 rfl (lv_at hl 3 rfl) ?_
        refine lv_iconst (v := 2) hx hb d_Law_law_269 (by decide) ?_
        refine lv_iadd hx hb d_Law_law_270 ?_
        rw [ik2 i]
        refine lw_ld hx hb hX hbl hj.1.2.1 (j := i + 2) (by omega) hL d_Law_law_271 ?_
        refine lv_aload_n hx hb d_Law_law_272 rfl (lv_at hl 0 rfl) ?_
        refine lv_iload_n hx hb d_Law_law_273 rfl (lv_at hl 3 rfl) ?_
        refine lv_iconst (v := 3) hx hb d_Law_law_274 (by decide) ?_
        refine lv_iadd hx hb d_Law_law_275 ?_
        rw [ik3 i]
        refine lw_ld hx hb hX hbl hj.1.2.1 (j := i + 3) (by omega) hL d_Law_law_276 ?_
        refine lv_aload_n hx hb d_Law_law_277 rfl (lv_at hl 0 rfl) ?_
        refine lv_iload_n hx hb d_Law_law_278 rfl (lv_at hl 3 rfl) ?_
        refine lv_iconst (v := 4) hx hb d_Law_law_279 (by decide) ?_
        refine lv_iadd hx hb d_Law_law_280 ?_
        rw [ik4 i]
        refine lw_ld hx hb hX hbl hj.1.2.1 (j := i + 4) (by omega) hL d_Law_law_281 ?_
        refine lv_i2l hx hb d_Law_law_282 rfl ?_
        refine lv_bipush (v := 32) hx hb d_Law_law_283 (by decide) ?_
        refine lv_lshl hx hb d_Law_law_285 rfl ?_
        refine lv_aload_n hx hb d_Law_law_286 rfl (lv_at hl 0 rfl) ?_
        refine lv_iload_n hx hb d_Law_law_287 rfl (lv_at hl 3 rfl) ?_
        refine lv_iconst (v := 5) hx hb d_Law_law_288 (by decide) ?_
        refine lv_iadd hx hb d_Law_law_289 ?_
        rw [ik5 i]
        refine lw_ld hx hb hX hbl hj.1.2.1 (j := i + 5) (by omega) hL d_Law_law_290 ?_
        refine lv_i2l hx hb d_Law_law_291 rfl ?_
        refine lv_ldc2 (v := 4294967295) hx hb hown (hts _ k_Law_21) d_Law_law_292 ?_
        refine lv_land hx hb d_Law_law_295 ?_
        refine lv_lor hx hb d_Law_law_296 ?_
        refine wd_jvi (As := [.int (xs (i + 1)), .int (xs (i + 2)), .int (xs (i + 3)), .long ((((xs (i + 4))).toInt64 <<< ((32 : Int32).toInt64 &&& 63)) ||| (((xs (i + 5))).toInt64 &&& 4294967295))]) (rest := [.int r1]) X hK hj.swap (c_Model_answer mb AD th mo n nw lt du g hM (hA_of hS) (xs (i + 1)) (xs (i + 2)) (xs (i + 3)) ((((xs (i + 4))).toInt64 <<< ((32 : Int32).toInt64 &&& 63)) ||| (((xs (i + 5))).toInt64 &&& 4294967295))) (cw_Law_37 hts rfl rfl ⟨(Nat.le_of_ble_eq_true rfl), (Nat.le_of_ble_eq_true rfl)⟩) hM.1 rfl rfl rfl hl.1 rfl (Nat.le_of_ble_eq_true rfl) d_Law_law_297 ⟨by show _ ≤ 600000; omega, by show _ ≤ 7302250; omega⟩ (fun r2 fm1 H locs p2 hj => ?_)
        have hj := hj.swap
        obtain ⟨er, hJ⟩ := J_answer h1 h2 h3 h4 h5 h6 hM hS p1 p2
        refine lv_icmp_eq (tgt := 527) hx hb d_Law_law_300 (by decide) (fun _ => ?_) (fun c => absurd er c)
        refine lv_iinc (v := nI (i + 6)) (lv' := [(3, .int (nI (i + 6))), (0, .ref sb), (1, .ref xa), (2, .ref mb)]) hx hb d_Law_law_527 hl (k := 3) rfl (ik6 i) (by decide) rfl (fun ls hl => ?_)
        refine lv_goto (tgt := 28) hx hb d_Law_law_530 (by decide) ?_
        refine W.widen (k := 36 + (cn + 1)) (n := 20971 + 8 * (cn + 1)) (by omega) (by omega) ?_
        exact ih (cn + 1) (i + 6) xa mb fc1 fm1 _ _ ls (by omega) (by omega) (by omega) hJ hj (lv_sub hl [1, 2, 3, 0] rfl)
      · skip
        refine lv_tableIn (tgt := 305) hx hb d_Law_law_43 (by decide) (by decide) rfl (by decide) ?_
        refine lv_aload_n hx hb d_Law_law_305 rfl (lv_at hl 1 rfl) ?_
        refine lv_aload_n hx hb d_Law_law_306 rfl (lv_at hl 0 rfl) ?_
        refine lv_iload_n hx hb d_Law_law_307 rfl (lv_at hl 3 rfl) ?_
        refine lv_iconst (v := 1) hx hb d_Law_law_308 (by decide) ?_
        refine lv_iadd hx hb d_Law_law_309 ?_
        rw [ik1 i]
        refine lw_ld hx hb hX hbl hj.1.2.1 (j := i + 1) (by omega) hL d_Law_law_310 ?_
        refine lv_aload_n hx hb d_Law_law_311 rfl (lv_at hl 0 rfl) ?_
        refine lv_iload_n hx hb d_Law_law_312 rfl (lv_at hl 3 rfl) ?_
        refine lv_iconst (v := 2) hx hb d_Law_law_313 (by decide) ?_
        refine lv_iadd hx hb d_Law_law_314 ?_
        rw [ik2 i]
        refine lw_ld hx hb hX hbl hj.1.2.1 (j := i + 2) (by omega) hL d_Law_law_315 ?_
        refine lv_aload_n hx hb d_Law_law_316 rfl (lv_at hl 0 rfl) ?_
        refine lv_iload_n hx hb d_Law_law_317 rfl (lv_at hl 3 rfl) ?_
        refine lv_iconst (v := 3) hx hb d_Law_law_318 (by decide) ?_
        refine lv_iadd hx hb d_Law_law_319 ?_
        rw [ik3 i]
        refine lw_ld hx hb hX hbl hj.1.2.1 (j := i + 3) (by omega) hL d_Law_law_320 ?_
        refine wd_jvi (As := [.int (xs (i + 1)), .int (xs (i + 2)), .int (xs (i + 3))]) (rest := []) X hK hj (c_ClerkRows_office xa mo pa ka (nI n) nw lt h1 gk K h3 h5 (xs (i + 1)) (xs (i + 2)) (xs (i + 3))) (cw_Law_38 hts rfl rfl ⟨(Nat.le_of_ble_eq_true rfl), (Nat.le_of_ble_eq_true rfl)⟩) h1 rfl rfl rfl hl.1 rfl (Nat.le_of_ble_eq_true rfl) d_Law_law_321 ⟨by show _ ≤ 600000; omega, by show _ ≤ 7302250; omega⟩ (fun r1 fc1 H locs p1 hj => ?_)
        refine lv_aload_n hx hb d_Law_law_324 rfl (lv_at hl 2 rfl) ?_
        refine lv_aload_n hx hb d_Law_law_325 rfl (lv_at hl 0 rfl) ?_
        refine lv_iload_n hx hb d_Law_law_326 rfl (lv_at hl 3 rfl) ?_
        refine lv_iconst (v := 1) hx hb d_Law_law_327 (by decide) ?_
        refine lv_iadd hx hb d_Law_law_328 ?_
        rw [ik1 i]
        refine lw_ld hx hb hX hbl hj.1.2.1 (j := i + 1) (by omega) hL d_Law_law_329 ?_
        refine lv_aload_n hx hb d_Law_law_330 rfl (lv_at hl 0 rfl) ?_
        refine lv_iload_n hx hb d_Law_law_331 rfl (lv_at hl 3 rfl) ?_
        refine lv_iconst (v := 2) hx hb d_Law_law_332 (by decide) ?_
        refine lv_iadd hx hb d_Law_law_333 ?_
        rw [ik2 i]
        refine lw_ld hx hb hX hbl hj.1.2.1 (j := i + 2) (by omega) hL d_Law_law_334 ?_
        refine lv_aload_n hx hb d_Law_law_335 rfl (lv_at hl 0 rfl) ?_
        refine lv_iload_n hx hb d_Law_law_336 rfl (lv_at hl 3 rfl) ?_
        refine lv_iconst (v := 3) hx hb d_Law_law_337 (by decide) ?_
        refine lv_iadd hx hb d_Law_law_338 ?_
        rw [ik3 i]
        refine lw_ld hx hb hX hbl hj.1.2.1 (j := i + 3) (by omega) hL d_Law_law_339 ?_
        refine wd_jvi (As := [.int (xs (i + 1)), .int (xs (i + 2)), .int (xs (i + 3))]) (rest := [.int r1]) X hK hj.swap (c_Model_office mb AD th mo n nw lt du g hM (xs (i + 1)) (xs (i + 2)) (xs (i + 3))) (cw_Law_42 hts rfl rfl ⟨(Nat.le_of_ble_eq_true rfl), (Nat.le_of_ble_eq_true rfl)⟩) hM.1 rfl rfl rfl hl.1 rfl (Nat.le_of_ble_eq_true rfl) d_Law_law_340 ⟨by show _ ≤ 600000; omega, by show _ ≤ 7302250; omega⟩ (fun r2 fm1 H locs p2 hj => ?_)
        have hj := hj.swap
        obtain ⟨er, hJ⟩ := J_office h1 h2 h3 h4 h5 h6 hS p1 p2
        refine lv_icmp_eq (tgt := 527) hx hb d_Law_law_343 (by decide) (fun _ => ?_) (fun c => absurd er c)
        refine lv_iinc (v := nI (i + 6)) (lv' := [(3, .int (nI (i + 6))), (0, .ref sb), (1, .ref xa), (2, .ref mb)]) hx hb d_Law_law_527 hl (k := 3) rfl (ik6 i) (by decide) rfl (fun ls hl => ?_)
        refine lv_goto (tgt := 28) hx hb d_Law_law_530 (by decide) ?_
        refine W.widen (k := 36 + (cn + 1)) (n := 20971 + 8 * (cn + 1)) (by omega) (by omega) ?_
        exact ih (cn + 1) (i + 6) xa mb fc1 fm1 _ _ ls (by omega) (by omega) (by omega) hJ hj (lv_sub hl [1, 2, 3, 0] rfl)
      · skip
        refine lv_tableIn (tgt := 348) hx hb d_Law_law_43 (by decide) (by decide) rfl (by decide) ?_
        refine lv_aload_n hx hb d_Law_law_348 rfl (lv_at hl 1 rfl) ?_
        refine lv_aload_n hx hb d_Law_law_349 rfl (lv_at hl 0 rfl) ?_
        refine lv_iload_n hx hb d_Law_law_350 rfl (lv_at hl 3 rfl) ?_
        refine lv_iconst (v := 1) hx hb d_Law_law_351 (by decide) ?_
        refine lv_iadd hx hb d_Law_law_352 ?_
        rw [ik1 i]
        refine lw_ld hx hb hX hbl hj.1.2.1 (j := i + 1) (by omega) hL d_Law_law_353 ?_
        refine wd_jvi (As := [.int (xs (i + 1))]) (rest := []) X hK hj (c_ClerkRows_leave xa mo pa ka (nI n) nw lt h1 gk K h3 h5 (hT_of h4 hS) (xs (i + 1))) (cw_Law_43 hts rfl rfl ⟨(Nat.le_of_ble_eq_true rfl), (Nat.le_of_ble_eq_true rfl)⟩) h1 rfl rfl rfl hl.1 rfl (Nat.le_of_ble_eq_true rfl) d_Law_law_354 ⟨by show _ ≤ 600000; omega, by show _ ≤ 7302250; omega⟩ (fun r1 fc1 H locs p1 hj => ?_)
        refine lv_aload_n hx hb d_Law_law_357 rfl (lv_at hl 2 rfl) ?_
        refine lv_aload_n hx hb d_Law_law_358 rfl (lv_at hl 0 rfl) ?_
        refine lv_iload_n hx hb d_Law_law_359 rfl (lv_at hl 3 rfl) ?_
        refine lv_iconst (v := 1) hx hb d_Law_law_360 (by decide) ?_
        refine lv_iadd hx hb d_Law_law_361 ?_
        rw [ik1 i]
        refine lw_ld hx hb hX hbl hj.1.2.1 (j := i + 1) (by omega) hL d_Law_law_362 ?_
        refine wd_jvi (As := [.int (xs (i + 1))]) (rest := [.int r1]) X hK hj.swap (c_Model_leave mb AD th mo n nw lt du g hM (xs (i + 1))) (cw_Law_47 hts rfl rfl ⟨(Nat.le_of_ble_eq_true rfl), (Nat.le_of_ble_eq_true rfl)⟩) hM.1 rfl rfl rfl hl.1 rfl (Nat.le_of_ble_eq_true rfl) d_Law_law_363 ⟨by show _ ≤ 600000; omega, by show _ ≤ 7302250; omega⟩ (fun r2 fm1 H locs p2 hj => ?_)
        have hj := hj.swap
        obtain ⟨er, hJ⟩ := J_leave h1 h2 h3 h4 h5 h6 hM hS p1 p2
        refine lv_icmp_eq (tgt := 527) hx hb d_Law_law_366 (by decide) (fun _ => ?_) (fun c => absurd er c)
        refine lv_iinc (v := nI (i + 6)) (lv' := [(3, .int (nI (i + 6))), (0, .ref sb), (1, .ref xa), (2, .ref mb)]) hx hb d_Law_law_527 hl (k := 3) rfl (ik6 i) (by decide) rfl (fun ls hl => ?_)
        refine lv_goto (tgt := 28) hx hb d_Law_law_530 (by decide) ?_
        refine W.widen (k := 36 + (cn + 1)) (n := 20971 + 8 * (cn + 1)) (by omega) (by omega) ?_
        exact ih (cn + 1) (i + 6) xa mb fc1 fm1 _ _ ls (by omega) (by omega) (by omega) hJ hj (lv_sub hl [1, 2, 3, 0] rfl)
      · skip
        refine lv_tableIn (tgt := 371) hx hb d_Law_law_43 (by decide) (by decide) rfl (by decide) ?_
        refine lv_aload_n hx hb d_Law_law_371 rfl (lv_at hl 1 rfl) ?_
        refine lv_aload_n hx hb d_Law_law_372 rfl (lv_at hl 0 rfl) ?_
        refine lv_iload_n hx hb d_Law_law_373 rfl (lv_at hl 3 rfl) ?_
        refine lv_iconst (v := 1) hx hb d_Law_law_374 (by decide) ?_
        refine lv_iadd hx hb d_Law_law_375 ?_
        rw [ik1 i]
        refine lw_ld hx hb hX hbl hj.1.2.1 (j := i + 1) (by omega) hL d_Law_law_376 ?_
        refine lv_i2l hx hb d_Law_law_377 rfl ?_
        refine lv_bipush (v := 32) hx hb d_Law_law_378 (by decide) ?_
        refine lv_lshl hx hb d_Law_law_380 rfl ?_
        refine lv_aload_n hx hb d_Law_law_381 rfl (lv_at hl 0 rfl) ?_
        refine lv_iload_n hx hb d_Law_law_382 rfl (lv_at hl 3 rfl) ?_
        refine lv_iconst (v := 2) hx hb d_Law_law_383 (by decide) ?_
        refine lv_iadd hx hb d_Law_law_384 ?_
        rw [ik2 i]
        refine lw_ld hx hb hX hbl hj.1.2.1 (j := i + 2) (by omega) hL d_Law_law_385 ?_
        refine lv_i2l hx hb d_Law_law_386 rfl ?_
        refine lv_ldc2 (v := 4294967295) hx hb hown (hts _ k_Law_21) d_Law_law_387 ?_
        refine lv_land hx hb d_Law_law_390 ?_
        refine lv_lor hx hb d_Law_law_391 ?_
        refine wd_jvi (As := [.long ((((xs (i + 1))).toInt64 <<< ((32 : Int32).toInt64 &&& 63)) ||| (((xs (i + 2))).toInt64 &&& 4294967295))]) (rest := []) X hK hj (c_ClerkRows_tick xa mo pa ka (nI n) nw lt h1 gp h2 n P h4 ((((xs (i + 1))).toInt64 <<< ((32 : Int32).toInt64 &&& 63)) ||| (((xs (i + 2))).toInt64 &&& 4294967295))) (cw_Law_48 hts rfl rfl ⟨(Nat.le_of_ble_eq_true rfl), (Nat.le_of_ble_eq_true rfl)⟩) h1 rfl rfl rfl hl.1 rfl (Nat.le_of_ble_eq_true rfl) d_Law_law_392 ⟨by show _ ≤ 600000; omega, by show _ ≤ 7302250; omega⟩ (fun r1 fc1 H locs p1 hj => ?_)
        refine lv_aload_n hx hb d_Law_law_395 rfl (lv_at hl 2 rfl) ?_
        refine lv_aload_n hx hb d_Law_law_396 rfl (lv_at hl 0 rfl) ?_
        refine lv_iload_n hx hb d_Law_law_397 rfl (lv_at hl 3 rfl) ?_
        refine lv_iconst (v := 1) hx hb d_Law_law_398 (by decide) ?_
        refine lv_iadd hx hb d_Law_law_399 ?_
        rw [ik1 i]
        refine lw_ld hx hb hX hbl hj.1.2.1 (j := i + 1) (by omega) hL d_Law_law_400 ?_
        refine lv_i2l hx hb d_Law_law_401 rfl ?_
        refine lv_bipush (v := 32) hx hb d_Law_law_402 (by decide) ?_
        refine lv_lshl hx hb d_Law_law_404 rfl ?_
        refine lv_aload_n hx hb d_Law_law_405 rfl (lv_at hl 0 rfl) ?_
        refine lv_iload_n hx hb d_Law_law_406 rfl (lv_at hl 3 rfl) ?_
        refine lv_iconst (v := 2) hx hb d_Law_law_407 (by decide) ?_
        refine lv_iadd hx hb d_Law_law_408 ?_
        rw [ik2 i]
        refine lw_ld hx hb hX hbl hj.1.2.1 (j := i + 2) (by omega) hL d_Law_law_409 ?_
        refine lv_i2l hx hb d_Law_law_410 rfl ?_
        refine lv_ldc2 (v := 4294967295) hx hb hown (hts _ k_Law_21) d_Law_law_411 ?_
        refine lv_land hx hb d_Law_law_414 ?_
        refine lv_lor hx hb d_Law_law_415 ?_
        refine wd_jvi (As := [.long ((((xs (i + 1))).toInt64 <<< ((32 : Int32).toInt64 &&& 63)) ||| (((xs (i + 2))).toInt64 &&& 4294967295))]) (rest := [.int r1]) X hK hj.swap (c_Model_tick mb AD th mo n nw lt du g hM ((((xs (i + 1))).toInt64 <<< ((32 : Int32).toInt64 &&& 63)) ||| (((xs (i + 2))).toInt64 &&& 4294967295))) (cw_Law_52 hts rfl rfl ⟨(Nat.le_of_ble_eq_true rfl), (Nat.le_of_ble_eq_true rfl)⟩) hM.1 rfl rfl rfl hl.1 rfl (Nat.le_of_ble_eq_true rfl) d_Law_law_416 ⟨by show _ ≤ 600000; omega, by show _ ≤ 7302250; omega⟩ (fun r2 fm1 H locs p2 hj => ?_)
        have hj := hj.swap
        obtain ⟨er, hJ⟩ := J_tick h1 h2 h3 h4 h5 h6 hS p1 p2
        refine lv_icmp_eq (tgt := 527) hx hb d_Law_law_419 (by decide) (fun _ => ?_) (fun c => absurd er c)
        refine lv_iinc (v := nI (i + 6)) (lv' := [(3, .int (nI (i + 6))), (0, .ref sb), (1, .ref xa), (2, .ref mb)]) hx hb d_Law_law_527 hl (k := 3) rfl (ik6 i) (by decide) rfl (fun ls hl => ?_)
        refine lv_goto (tgt := 28) hx hb d_Law_law_530 (by decide) ?_
        refine W.widen (k := 36 + (cn + 1)) (n := 20971 + 8 * (cn + 1)) (by omega) (by omega) ?_
        exact ih (cn + 1) (i + 6) xa mb fc1 fm1 _ _ ls (by omega) (by omega) (by omega) hJ hj (lv_sub hl [1, 2, 3, 0] rfl)
      · skip
        refine lv_tableIn (tgt := 424) hx hb d_Law_law_43 (by decide) (by decide) rfl (by decide) ?_
        refine lv_aload_n hx hb d_Law_law_424 rfl (lv_at hl 1 rfl) ?_
        refine lv_aload_n hx hb d_Law_law_425 rfl (lv_at hl 0 rfl) ?_
        refine lv_iload_n hx hb d_Law_law_426 rfl (lv_at hl 3 rfl) ?_
        refine lv_iconst (v := 1) hx hb d_Law_law_427 (by decide) ?_
        refine lv_iadd hx hb d_Law_law_428 ?_
        rw [ik1 i]
        refine lw_ld hx hb hX hbl hj.1.2.1 (j := i + 1) (by omega) hL d_Law_law_429 ?_
        refine wd_cvi (As := [.int (xs (i + 1))]) (rest := []) X hK hj.1 (c_ClerkRows_settled xa mo pa ka (nI n) nw lt h1 gp h2 n P h4 (xs (i + 1))) (cw_Law_53 hts rfl rfl ⟨(Nat.le_of_ble_eq_true rfl), (Nat.le_of_ble_eq_true rfl)⟩) h1 rfl rfl rfl hl.1 rfl (Nat.le_of_ble_eq_true rfl) d_Law_law_430 ⟨by show _ ≤ 600000; omega, by show _ ≤ 7302250; omega⟩ (fun r1 p1 => ?_)
        refine lv_aload_n hx hb d_Law_law_433 rfl (lv_at hl 2 rfl) ?_
        refine lv_aload_n hx hb d_Law_law_434 rfl (lv_at hl 0 rfl) ?_
        refine lv_iload_n hx hb d_Law_law_435 rfl (lv_at hl 3 rfl) ?_
        refine lv_iconst (v := 1) hx hb d_Law_law_436 (by decide) ?_
        refine lv_iadd hx hb d_Law_law_437 ?_
        rw [ik1 i]
        refine lw_ld hx hb hX hbl hj.1.2.1 (j := i + 1) (by omega) hL d_Law_law_438 ?_
        refine wd_jvi (As := [.int (xs (i + 1))]) (rest := [.int r1]) X hK hj.swap (c_Model_settled mb AD th mo n nw lt du g hM (xs (i + 1))) (cw_Law_56 hts rfl rfl ⟨(Nat.le_of_ble_eq_true rfl), (Nat.le_of_ble_eq_true rfl)⟩) hM.1 rfl rfl rfl hl.1 rfl (Nat.le_of_ble_eq_true rfl) d_Law_law_439 ⟨by show _ ≤ 600000; omega, by show _ ≤ 7302250; omega⟩ (fun r2 fm1 H locs p2 hj => ?_)
        have hj := hj.swap
        obtain ⟨er, hJ⟩ := J_settled (rC_mk h1 h2 h3 h4 h5 h6) hM hS p1 p2
        refine lv_icmp_eq (tgt := 527) hx hb d_Law_law_442 (by decide) (fun _ => ?_) (fun c => absurd er c)
        refine lv_iinc (v := nI (i + 6)) (lv' := [(3, .int (nI (i + 6))), (0, .ref sb), (1, .ref xa), (2, .ref mb)]) hx hb d_Law_law_527 hl (k := 3) rfl (ik6 i) (by decide) rfl (fun ls hl => ?_)
        refine lv_goto (tgt := 28) hx hb d_Law_law_530 (by decide) ?_
        refine W.widen (k := 36 + (cn + 1)) (n := 20971 + 8 * (cn + 1)) (by omega) (by omega) ?_
        exact ih (cn + 1) (i + 6) xa mb fc fm1 _ _ ls (by omega) (by omega) (by omega) hJ hj (lv_sub hl [1, 2, 3, 0] rfl)
      · skip
        refine lv_tableIn (tgt := 447) hx hb d_Law_law_43 (by decide) (by decide) rfl (by decide) ?_
        refine lv_aload_n hx hb d_Law_law_447 rfl (lv_at hl 1 rfl) ?_
        refine lv_aload_n hx hb d_Law_law_448 rfl (lv_at hl 0 rfl) ?_
        refine lv_iload_n hx hb d_Law_law_449 rfl (lv_at hl 3 rfl) ?_
        refine lv_iconst (v := 1) hx hb d_Law_law_450 (by decide) ?_
        refine lv_iadd hx hb d_Law_law_451 ?_
        rw [ik1 i]
        refine lw_ld hx hb hX hbl hj.1.2.1 (j := i + 1) (by omega) hL d_Law_law_452 ?_
        refine wd_cvi (As := [.int (xs (i + 1))]) (rest := []) X hK hj.1 (c_ClerkRows_state xa mo pa ka (nI n) nw lt h1 gp h2 n P h4 (xs (i + 1))) (cw_Law_57 hts rfl rfl ⟨(Nat.le_of_ble_eq_true rfl), (Nat.le_of_ble_eq_true rfl)⟩) h1 rfl rfl rfl hl.1 rfl (Nat.le_of_ble_eq_true rfl) d_Law_law_453 ⟨by show _ ≤ 600000; omega, by show _ ≤ 7302250; omega⟩ (fun r1 p1 => ?_)
        refine lv_aload_n hx hb d_Law_law_456 rfl (lv_at hl 2 rfl) ?_
        refine lv_aload_n hx hb d_Law_law_457 rfl (lv_at hl 0 rfl) ?_
        refine lv_iload_n hx hb d_Law_law_458 rfl (lv_at hl 3 rfl) ?_
        refine lv_iconst (v := 1) hx hb d_Law_law_459 (by decide) ?_
        refine lv_iadd hx hb d_Law_law_460 ?_
        rw [ik1 i]
        refine lw_ld hx hb hX hbl hj.1.2.1 (j := i + 1) (by omega) hL d_Law_law_461 ?_
        refine wd_jvi (As := [.int (xs (i + 1))]) (rest := [.int r1]) X hK hj.swap (c_Model_state mb AD th mo n nw lt du g hM (xs (i + 1))) (cw_Law_60 hts rfl rfl ⟨(Nat.le_of_ble_eq_true rfl), (Nat.le_of_ble_eq_true rfl)⟩) hM.1 rfl rfl rfl hl.1 rfl (Nat.le_of_ble_eq_true rfl) d_Law_law_462 ⟨by show _ ≤ 600000; omega, by show _ ≤ 7302250; omega⟩ (fun r2 fm1 H locs p2 hj => ?_)
        have hj := hj.swap
        obtain ⟨er, hJ⟩ := J_state (rC_mk h1 h2 h3 h4 h5 h6) hM hS p1 p2
        refine lv_icmp_eq (tgt := 527) hx hb d_Law_law_465 (by decide) (fun _ => ?_) (fun c => absurd er c)
        refine lv_iinc (v := nI (i + 6)) (lv' := [(3, .int (nI (i + 6))), (0, .ref sb), (1, .ref xa), (2, .ref mb)]) hx hb d_Law_law_527 hl (k := 3) rfl (ik6 i) (by decide) rfl (fun ls hl => ?_)
        refine lv_goto (tgt := 28) hx hb d_Law_law_530 (by decide) ?_
        refine W.widen (k := 36 + (cn + 1)) (n := 20971 + 8 * (cn + 1)) (by omega) (by omega) ?_
        exact ih (cn + 1) (i + 6) xa mb fc fm1 _ _ ls (by omega) (by omega) (by omega) hJ hj (lv_sub hl [1, 2, 3, 0] rfl)
      · skip
        refine lv_tableIn (tgt := 470) hx hb d_Law_law_43 (by decide) (by decide) rfl (by decide) ?_
        refine lv_aload_n hx hb d_Law_law_470 rfl (lv_at hl 1 rfl) ?_
        refine lv_aload_n hx hb d_Law_law_471 rfl (lv_at hl 0 rfl) ?_
        refine lv_iload_n hx hb d_Law_law_472 rfl (lv_at hl 3 rfl) ?_
        refine lv_iconst (v := 1) hx hb d_Law_law_473 (by decide) ?_
        refine lv_iadd hx hb d_Law_law_474 ?_
        rw [ik1 i]
        refine lw_ld hx hb hX hbl hj.1.2.1 (j := i + 1) (by omega) hL d_Law_law_475 ?_
        refine lv_aload_n hx hb d_Law_law_476 rfl (lv_at hl 0 rfl) ?_
        refine lv_iload_n hx hb d_Law_law_477 rfl (lv_at hl 3 rfl) ?_
        refine lv_iconst (v := 2) hx hb d_Law_law_478 (by decide) ?_
        refine lv_iadd hx hb d_Law_law_479 ?_
        rw [ik2 i]
        refine lw_ld hx hb hX hbl hj.1.2.1 (j := i + 2) (by omega) hL d_Law_law_480 ?_
        refine lv_aload_n hx hb d_Law_law_481 rfl (lv_at hl 0 rfl) ?_
        refine lv_iload_n hx hb d_Law_law_482 rfl (lv_at hl 3 rfl) ?_
        refine lv_iconst (v := 3) hx hb d_Law_law_483 (by decide) ?_
        refine lv_iadd hx hb d_Law_law_484 ?_
        rw [ik3 i]
        refine lw_ld hx hb hX hbl hj.1.2.1 (j := i + 3) (by omega) hL d_Law_law_485 ?_
        refine wd_cvl (As := [.int (xs (i + 1)), .int (xs (i + 2)), .int (xs (i + 3))]) (rest := []) X hK hj.1 (c_ClerkRows_agreement xa mo pa ka (nI n) nw lt h1 gp h2 n P h4 gk K h3 h5 (xs (i + 1)) (xs (i + 2)) (xs (i + 3))) (cw_Law_61 hts rfl rfl ⟨(Nat.le_of_ble_eq_true rfl), (Nat.le_of_ble_eq_true rfl)⟩) h1 rfl rfl rfl hl.1 rfl (Nat.le_of_ble_eq_true rfl) d_Law_law_486 ⟨by show _ ≤ 600000; omega, by show _ ≤ 7302250; omega⟩ (fun r1 p1 => ?_)
        refine lv_aload_n hx hb d_Law_law_489 rfl (lv_at hl 2 rfl) ?_
        refine lv_aload_n hx hb d_Law_law_490 rfl (lv_at hl 0 rfl) ?_
        refine lv_iload_n hx hb d_Law_law_491 rfl (lv_at hl 3 rfl) ?_
        refine lv_iconst (v := 1) hx hb d_Law_law_492 (by decide) ?_
        refine lv_iadd hx hb d_Law_law_493 ?_
        rw [ik1 i]
        refine lw_ld hx hb hX hbl hj.1.2.1 (j := i + 1) (by omega) hL d_Law_law_494 ?_
        refine lv_aload_n hx hb d_Law_law_495 rfl (lv_at hl 0 rfl) ?_
        refine lv_iload_n hx hb d_Law_law_496 rfl (lv_at hl 3 rfl) ?_
        refine lv_iconst (v := 2) hx hb d_Law_law_497 (by decide) ?_
        refine lv_iadd hx hb d_Law_law_498 ?_
        rw [ik2 i]
        refine lw_ld hx hb hX hbl hj.1.2.1 (j := i + 2) (by omega) hL d_Law_law_499 ?_
        refine lv_aload_n hx hb d_Law_law_500 rfl (lv_at hl 0 rfl) ?_
        refine lv_iload_n hx hb d_Law_law_501 rfl (lv_at hl 3 rfl) ?_
        refine lv_iconst (v := 3) hx hb d_Law_law_502 (by decide) ?_
        refine lv_iadd hx hb d_Law_law_503 ?_
        rw [ik3 i]
        refine lw_ld hx hb hX hbl hj.1.2.1 (j := i + 3) (by omega) hL d_Law_law_504 ?_
        refine wd_jvl (As := [.int (xs (i + 1)), .int (xs (i + 2)), .int (xs (i + 3))]) (rest := [.long r1]) X hK hj.swap (c_Model_agreement mb AD th mo n nw lt du g hM (xs (i + 1)) (xs (i + 2)) (xs (i + 3))) (cw_Law_65 hts rfl rfl ⟨(Nat.le_of_ble_eq_true rfl), (Nat.le_of_ble_eq_true rfl)⟩) hM.1 rfl rfl rfl hl.1 rfl (Nat.le_of_ble_eq_true rfl) d_Law_law_505 ⟨by show _ ≤ 600000; omega, by show _ ≤ 7302250; omega⟩ (fun r2 fm1 H locs p2 hj => ?_)
        have hj := hj.swap
        obtain ⟨er, hJ⟩ := J_agreement (rC_mk h1 h2 h3 h4 h5 h6) hM hS p1 p2
        refine W.lcmp hx hb d_Law_law_508 ?_
        refine lv_if_eq (tgt := 527) hx hb d_Law_law_509 (by decide) (fun _ => ?_) (fun c => absurd ((lg_cmp_eq _ _).mpr er) c)
        refine lv_iinc (v := nI (i + 6)) (lv' := [(3, .int (nI (i + 6))), (0, .ref sb), (1, .ref xa), (2, .ref mb)]) hx hb d_Law_law_527 hl (k := 3) rfl (ik6 i) (by decide) rfl (fun ls hl => ?_)
        refine lv_goto (tgt := 28) hx hb d_Law_law_530 (by decide) ?_
        refine W.widen (k := 36 + (cn + 1)) (n := 20971 + 8 * (cn + 1)) (by omega) (by omega) ?_
        exact ih (cn + 1) (i + 6) xa mb fc fm1 _ _ ls (by omega) (by omega) (by omega) hJ hj (lv_sub hl [1, 2, 3, 0] rfl)
      · skip
        refine lv_tableIn (tgt := 514) hx hb d_Law_law_43 (by decide) (by decide) rfl (by decide) ?_
        refine lv_aload_n hx hb d_Law_law_514 rfl (lv_at hl 1 rfl) ?_
        refine wd_cvi (As := []) (rest := []) X hK hj.1 (c_ClerkRows_waiting xa mo pa ka (nI n) nw lt h1 gp h2 n P h4 ) (cw_Law_66 hts rfl rfl ⟨(Nat.le_of_ble_eq_true rfl), (Nat.le_of_ble_eq_true rfl)⟩) h1 rfl rfl rfl hl.1 rfl (Nat.le_of_ble_eq_true rfl) d_Law_law_515 ⟨by show _ ≤ 600000; omega, by show _ ≤ 7302250; omega⟩ (fun r1 p1 => ?_)
        refine lv_aload_n hx hb d_Law_law_518 rfl (lv_at hl 2 rfl) ?_
        refine wd_jvi (As := []) (rest := [.int r1]) X hK hj.swap (c_Model_waiting mb AD th mo n nw lt du g hM ) (cw_Law_70 hts rfl rfl ⟨(Nat.le_of_ble_eq_true rfl), (Nat.le_of_ble_eq_true rfl)⟩) hM.1 rfl rfl rfl hl.1 rfl (Nat.le_of_ble_eq_true rfl) d_Law_law_519 ⟨by show _ ≤ 600000; omega, by show _ ≤ 7302250; omega⟩ (fun r2 fm1 H locs p2 hj => ?_)
        have hj := hj.swap
        obtain ⟨er, hJ⟩ := J_waiting (rC_mk h1 h2 h3 h4 h5 h6) hS p1 p2
        refine lv_icmp_eq (tgt := 527) hx hb d_Law_law_522 (by decide) (fun _ => ?_) (fun c => absurd er c)
        refine lv_iinc (v := nI (i + 6)) (lv' := [(3, .int (nI (i + 6))), (0, .ref sb), (1, .ref xa), (2, .ref mb)]) hx hb d_Law_law_527 hl (k := 3) rfl (ik6 i) (by decide) rfl (fun ls hl => ?_)
        refine lv_goto (tgt := 28) hx hb d_Law_law_530 (by decide) ?_
        refine W.widen (k := 36 + (cn + 1)) (n := 20971 + 8 * (cn + 1)) (by omega) (by omega) ?_
        exact ih (cn + 1) (i + 6) xa mb fc fm1 _ _ ls (by omega) (by omega) (by omega) hJ hj (lv_sub hl [1, 2, 3, 0] rfl)
      · skip
        refine lv_tableOut (tgt := 527) hx hb d_Law_law_43 (Or.inr (by rw [nI_toInt (by omega)]; omega)) (by decide) ?_
        refine lv_iinc (v := nI (i + 6)) (lv' := [(3, .int (nI (i + 6))), (0, .ref sb), (1, .ref xa), (2, .ref mb)]) hx hb d_Law_law_527 hl (k := 3) rfl (ik6 i) (by decide) rfl (fun ls hl => ?_)
        refine lv_goto (tgt := 28) hx hb d_Law_law_530 (by decide) ?_
        refine W.widen (k := 36 + (cn + 1)) (n := 20971 + 8 * (cn + 1)) (by omega) (by omega) ?_
        exact ih (cn + 1) (i + 6) xa mb fc fm _ _ ls (by omega) (by omega) (by omega) hJR hj (lv_sub hl [1, 2, 3, 0] rfl)
    · skip
      refine lv_iload_n hx hb d_Law_law_28 rfl (lv_at hl 3 rfl) ?_
      refine lv_aload_n hx hb d_Law_law_29 rfl (lv_at hl 0 rfl) ?_
      refine va_slen hx hb hX hbl (Nat.not_le.mpr hbl) hj.1.2.1 d_Law_law_30 ?_
      refine lv_bipush (v := 6) hx hb d_Law_law_31 (by decide) ?_
      refine lv_isub hx hb d_Law_law_33 ?_
      refine lv_icmp_gt (tgt := 533) hx hb d_Law_law_34 (by decide) (fun _ => ?_) (fun c => absurd ((len_ex hL (by omega)).mpr hex) c)
      refine lv_iconst (v := 1) hx hb d_Law_law_533 (by decide) ?_
      have hS := hj.1.2.1
      refine va_forget (fun q hq => hS.2.2 q hq) ?_
      refine W.widen (k := 600000) (n := 7302250) (by omega) (by omega) ?_
      exact lw_ret hx hb hr hlocks d_Law_law_534
