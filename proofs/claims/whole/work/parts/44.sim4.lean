/-! answer, on both sides -/
section ANS
variable {mo : Int32} {n : Nat} {P : Nat → PT} {K : Nat → KT} {du : Nat → Int64} {g : Nat → Nat → Int32} {i j q : Nat} {o en : Int32}
theorem sR_ansG (h : sR mo n P K du g) (hj : j < 20) (hi : i < n) (hm : (q, nI j, o, -1) ∈ pL (P i)) (hu : ∀ i' : Nat, i' < n → (g 6 (20 * i' + j) = 2 ↔ i' = i)) (hq : ∀ s ∈ pL (P i), s.1 = q → s.2.1 = nI j) (hen : ¬ en < 0) {G : Nat → Nat → Int32} {x' : PT}
    (e6 : G 6 = upd (g 6) (20 * i + j) 3) (e8 : G 8 = upd (g 8) (20 * i + j) en) (e1 : G 1 = g 1) (e7 : G 7 = g 7) (e9 : G 9 = g 9) (e10 : G 10 = g 10) (e11 : G 11 = g 11)
    (Hc : ∀ i' : Nat, i' ≠ i → ∀ k : Nat, 2 ≤ k → k ≤ 4 → G k (i' + 1) = g k (i' + 1)) (Hc5 : ∀ i' : Nat, i' ≠ i → ∀ m : Nat, m < 3 → G 5 (3 * (i' + 1) + m) = g 5 (3 * (i' + 1) + m))
    (x1 : pDu x' = pDu (P i)) (x2 : pSk x' = pSk (P i)) (x3 : pEn x' = G 2 (i + 1)) (x4 : pSw x' = G 3 (i + 1)) (x5 : pL x' = sE q en (pL (P i))) (x6 : pEn x' = 0 → pSw x' = 0 ∧ ∃ k : Nat, kR x' G i k) (x7 : pEn x' = 0 → pEn (P i) = 0) :
    sR mo n (va_up P i x') (va_up K j (kAd (K j), kIn (K j), kOf (K j), kSk (K j), none)) du G := by
  obtain ⟨a1, a2, a3, a4, a5, a6⟩ := h.1 i hi
  refine sR_one h hi (j0 := j) (fun i' hi' j' hj' => ?_) (fun j' hj' hne => ?_) (fun i' hi' k hk1 hk2 => ?_) Hc5 (fun j' hj' => ?_) ?_ (fun j' hj' hne q' o' hm' => ?_) x7 ?_ (fun j' _ hne => by rw [vp_un hne])
  · rw [e6, e7, e8, pk_un (ix_ne hj' hj (Or.inl hi')), pk_un (ix_ne hj' hj (Or.inl hi'))]
    exact ⟨rfl, rfl, rfl⟩
  · rw [e6, pk_un (ix_ne hj' hj (Or.inr hne))]
  · by_cases hk : k = 1
    · subst hk; rw [e1]
    · exact Hc i' hi' k (by omega) hk2
  · rw [e9, e10, e11]
    by_cases hij : j' = j
    · subst hij; rw [vp_us]; exact h.2.1 j' hj'
    · rw [vp_un hij]; exact h.2.1 j' hj'
  · refine ⟨x1.trans a1, by rw [e1]; exact x2.trans a2, x3, x4, ?_, x6⟩
    rw [x5]
    refine lR_sE a5 hm hq (fun j' hj' hne => ?_) hj ?_
    · rw [e6, e7, e8, pk_un (ix_ne hj' hj (Or.inr hne)), pk_un (ix_ne hj' hj (Or.inr hne))]
      exact ⟨rfl, rfl, rfl⟩
    · have ht := lR_at a5 hj hm rfl
      exact ⟨by rw [e7]; exact ht.1, Or.inr (Or.inr ⟨hen, by rw [e6, pk_us], by rw [e8, pk_us]⟩)⟩
  · rw [x5]
    refine sE_mem.mpr ⟨_, hm', ?_⟩
    rw [if_neg (fun z => hne ?_)]
    have z2 : nI j' = nI j := hq _ hm' z
    rw [nI_eq (by omega) (by omega)] at z2
    exact z2
  · rw [vp_us]
    refine Or.inl ⟨rfl, fun i' hi' z => ?_⟩
    rw [e6] at z
    by_cases hii : i' = i
    · subst hii; rw [pk_us] at z; exact absurd z (by decide)
    · rw [pk_un (ix_ne hj hj (Or.inl hii))] at z
      exact hii ((hu i' hi').mp z)
/-- the picture after an answer -/
abbrev xA (x : PT) (q : Nat) (en : Int32) : PT := (pAd x, pDu x, pSk x, (tE (pWa x) (pAn x + 1) (pEn x) (pSw x) en (hasE en (pL x))).1, pAn x + 1, (tE (pWa x) (pAn x + 1) (pEn x) (pSw x) en (hasE en (pL x))).2.1, (tE (pWa x) (pAn x + 1) (pEn x) (pSw x) en (hasE en (pL x))).2.2, sE q en (pL x))
abbrev aG3 (g : Nat → Nat → Int32) (i j : Nat) (en : Int32) : Nat → Nat → Int32 := va_up (va_up g 6 (upd (g 6) (20 * i + j) 3)) 8 (upd ((va_up g 6 (upd (g 6) (20 * i + j) 3)) 8) (20 * i + j) en)
theorem en_le0 (hen : ¬ en < 0) : en ≤ 0 ↔ en = 0 := by
  rw [Int32.lt_iff_toInt_lt] at hen
  rw [Int32.le_iff_toInt_le, ← Int32.toInt_inj]
  have e0 : (0 : Int32).toInt = 0 := by decide
  omega
theorem sR_answer (h : sR mo n P K du g) (hj : j < 20) (hi : i < n) (hm : (q, nI j, o, -1) ∈ pL (P i)) (hu : ∀ i' : Nat, i' < n → (g 6 (20 * i' + j) = 2 ↔ i' = i)) (hq : ∀ s ∈ pL (P i), s.1 = q → s.2.1 = nI j) (hen : ¬ en < 0) {G : Nat → Nat → Int32}
    (hG : (¬ aG3 g i j en 2 (i + 1) = 0 ∧ G = aG3 g i j en) ∨ (aG3 g i j en 2 (i + 1) = 0 ∧ ∃ k : Nat, k ≤ 2 ∧ g 4 (i + 1) = nI k ∧ ((bl (aG3 g i j en 5) i en k = true ∧ G = tB (aG3 g i j en) i k en) ∨ (¬ bl (aG3 g i j en 5) i en k = true ∧ nI k = 2 ∧ G = tC (aG3 g i j en) i k en) ∨ (¬ bl (aG3 g i j en 5) i en k = true ∧ ¬ nI k = 2 ∧ G = tA (aG3 g i j en) i k en)))) :
    sR mo n (va_up P i (xA (P i) q en)) (va_up K j (kAd (K j), kIn (K j), kOf (K j), kSk (K j), none)) du G := by
  have s6 : aG3 g i j en 6 = upd (g 6) (20 * i + j) 3 := by unfold aG3; rw [vu_ne (show (6 : Nat) ≠ 8 by decide), vu_same]
  have s8 : aG3 g i j en 8 = upd (g 8) (20 * i + j) en := by unfold aG3; rw [vu_same, vu_ne (show (8 : Nat) ≠ 6 by decide)]
  have sk : ∀ k : Nat, k ≠ 6 → k ≠ 8 → aG3 g i j en k = g k := fun k h1 h2 => by unfold aG3; rw [vu_ne h2, vu_ne h1]
  generalize aG3 g i j en = S at s6 s8 sk hG
  obtain ⟨a1, a2, a3, a4, a5, a6⟩ := h.1 i hi
  have hc := sE_cnt (x := en) (pL (P i)) a5.1 hm hq
  have s2 : S 2 = g 2 := sk 2 (by decide) (by decide)
  rcases hG with ⟨hn, rfl⟩ | ⟨hz, k, hk2, hk4, hG⟩
  · have hne : ¬ pEn (P i) = 0 := fun z => hn (by rw [s2, ← a3]; exact z)
    have ht : tE (pWa (P i)) (pAn (P i) + 1) (pEn (P i)) (pSw (P i)) en (hasE en (pL (P i))) = (pWa (P i), pEn (P i), pSw (P i)) := if_pos hne
    refine sR_ansG h hj hi hm hu hq hen s6 s8 (sk 1 (by decide) (by decide)) (sk 7 (by decide) (by decide)) (sk 9 (by decide) (by decide)) (sk 10 (by decide) (by decide)) (sk 11 (by decide) (by decide)) (fun i' _ k hk1 hk2 => by rw [sk k (by omega) (by omega)]) (fun i' _ m _ => by rw [sk 5 (by decide) (by decide)]) rfl rfl ?_ ?_ rfl (fun z => ?_) (fun z => ?_)
    · show (tE _ _ _ _ _ _).2.1 = _
      rw [ht, s2]; exact a3
    · show (tE _ _ _ _ _ _).2.2 = _
      rw [ht, sk 3 (by decide) (by decide)]; exact a4
    · have z' : (tE (pWa (P i)) (pAn (P i) + 1) (pEn (P i)) (pSw (P i)) en (hasE en (pL (P i)))).2.1 = 0 := z
      rw [ht] at z'
      exact absurd z' hne
    · have z' : (tE (pWa (P i)) (pAn (P i) + 1) (pEn (P i)) (pSw (P i)) en (hasE en (pL (P i)))).2.1 = 0 := z
      rw [ht] at z'
      exact z'
  · have hz' : pEn (P i) = 0 := by rw [a3, ← s2]; exact hz
    obtain ⟨b1, k0, b2⟩ := a6 hz'
    have hkk : k0 = k := by
      have := b2.2.2.1.symm.trans hk4
      rw [nI_eq (by have := b2.1; omega) (by omega)] at this
      exact this
    subst hkk
    have hal : hasE en (pL (P i)) = bl (S 5) i en k0 := by rw [sk 5 (by decide) (by decide)]; exact b2.2.2.2.2.2.1 en hen
    have b21 := b2.2.1
    have c1 : tA S i k0 en 1 = g 1 := by unfold tA; rw [vu_ne (by decide), vu_ne (by decide), sk 1 (by decide) (by decide)]
    have c2 : tA S i k0 en 2 = g 2 := by unfold tA; rw [vu_ne (by decide), vu_ne (by decide), s2]
    have c3 : tA S i k0 en 3 = g 3 := by unfold tA; rw [vu_ne (by decide), vu_ne (by decide), sk 3 (by decide) (by decide)]
    have c4 : tA S i k0 en 4 = upd (g 4) (i + 1) (g 4 (i + 1) + 1) := by unfold tA; rw [vu_same, vu_ne (by decide), sk 4 (by decide) (by decide)]
    have c5 : tA S i k0 en 5 = upd (g 5) (3 * (i + 1) + k0) en := by unfold tA; rw [vu_ne (by decide), vu_same, sk 5 (by decide) (by decide)]
    have c6 : tA S i k0 en 6 = upd (g 6) (20 * i + j) 3 := by unfold tA; rw [vu_ne (by decide), vu_ne (by decide), s6]
    have c7 : tA S i k0 en 7 = g 7 := by unfold tA; rw [vu_ne (by decide), vu_ne (by decide), sk 7 (by decide) (by decide)]
    have c8 : tA S i k0 en 8 = upd (g 8) (20 * i + j) en := by unfold tA; rw [vu_ne (by decide), vu_ne (by decide), s8]
    have c9 : tA S i k0 en 9 = g 9 := by unfold tA; rw [vu_ne (by decide), vu_ne (by decide), sk 9 (by decide) (by decide)]
    have c10 : tA S i k0 en 10 = g 10 := by unfold tA; rw [vu_ne (by decide), vu_ne (by decide), sk 10 (by decide) (by decide)]
    have c11 : tA S i k0 en 11 = g 11 := by unfold tA; rw [vu_ne (by decide), vu_ne (by decide), sk 11 (by decide) (by decide)]
    have cc : ∀ i' : Nat, i' ≠ i → ∀ k : Nat, 2 ≤ k → k ≤ 4 → tA S i k0 en k (i' + 1) = g k (i' + 1) := fun i' hi' k h1 h2 => by
      rcases (show k = 2 ∨ k = 3 ∨ k = 4 by omega) with rfl | rfl | rfl
      · rw [c2]
      · rw [c3]
      · rw [c4, pk_un (by omega)]
    have cc5 : ∀ i' : Nat, i' ≠ i → ∀ m : Nat, m < 3 → tA S i k0 en 5 (3 * (i' + 1) + m) = g 5 (3 * (i' + 1) + m) := fun i' hi' m hm => by
      rw [c5, pk_un (by omega)]
    unfold tB tC at hG
    generalize tA S i k0 en = T at c1 c2 c3 c4 c5 c6 c7 c8 c9 c10 c11 cc cc5 hG
    rcases hG with ⟨hb, hGe⟩ | ⟨hb, hk, hGe⟩ | ⟨hb, hk, hGe⟩
    · have d : ∀ k : Nat, k ≠ 2 → k ≠ 3 → G k = T k := fun k h1 h2 => by rw [hGe, vu_ne h2, vu_ne h1]
      have d2 : G 2 = upd (g 2) (i + 1) (if en ≤ 0 then 3 else 2) := by rw [hGe, vu_ne (by decide), vu_same, c2]
      have d3 : G 3 = upd (g 3) (i + 1) en := by rw [hGe, vu_same, vu_ne (by decide), c3]
      have ht : tE (pWa (P i)) (pAn (P i) + 1) (pEn (P i)) (pSw (P i)) en (hasE en (pL (P i))) = (pWa (P i), (if en = 0 then 3 else 2), (if en = 0 then pSw (P i) else en)) := by
        unfold tE
        rw [if_neg (fun z => z hz'), hal, if_pos hb]
      have hnz : ¬ (if en = 0 then (3 : Int32) else 2) = 0 := by split <;> decide
      refine sR_ansG h hj hi hm hu hq hen (by rw [d 6 (by decide) (by decide), c6]) (by rw [d 8 (by decide) (by decide), c8]) (by rw [d 1 (by decide) (by decide), c1]) (by rw [d 7 (by decide) (by decide), c7]) (by rw [d 9 (by decide) (by decide), c9]) (by rw [d 10 (by decide) (by decide), c10]) (by rw [d 11 (by decide) (by decide), c11]) (fun i' hi' k hk1 hk2 => ?_) (fun i' hi' m hm' => by rw [d 5 (by decide) (by decide)]; exact cc5 i' hi' m hm') rfl rfl ?_ ?_ rfl (fun z => ?_) (fun _ => hz')
      · rcases (show k = 2 ∨ k = 3 ∨ k = 4 by omega) with rfl | rfl | rfl
        · rw [d2, pk_un (by omega)]
        · rw [d3, pk_un (by omega)]
        · rw [d 4 (by decide) (by decide)]; exact cc i' hi' 4 (by decide) (by decide)
      · show (tE _ _ _ _ _ _).2.1 = _
        rw [ht, d2, pk_us]
        by_cases h0 : en = 0
        · rw [if_pos h0, if_pos ((en_le0 hen).mpr h0)]
        · rw [if_neg h0, if_neg (fun z => h0 ((en_le0 hen).mp z))]
      · show (tE _ _ _ _ _ _).2.2 = _
        rw [ht, d3, pk_us]
        show (if en = 0 then pSw (P i) else en) = en
        by_cases h0 : en = 0
        · rw [if_pos h0, b1, h0]
        · rw [if_neg h0]
      · have z' : (tE (pWa (P i)) (pAn (P i) + 1) (pEn (P i)) (pSw (P i)) en (hasE en (pL (P i)))).2.1 = 0 := z
        rw [ht] at z'
        exact absurd z' hnz
    · have hk3 : k0 = 2 := by
        rw [show (2 : Int32) = nI 2 from rfl, nI_eq (by omega) (by omega)] at hk
        exact hk
      subst hk3
      have d : ∀ k : Nat, k ≠ 2 → G k = T k := fun k h1 => by rw [hGe, vu_ne h1]
      have d2 : G 2 = upd (g 2) (i + 1) 3 := by rw [hGe, vu_same, c2]
      have ht : tE (pWa (P i)) (pAn (P i) + 1) (pEn (P i)) (pSw (P i)) en (hasE en (pL (P i))) = (pWa (P i), 3, pSw (P i)) := by
        unfold tE
        rw [if_neg (fun z => z hz'), hal, if_neg hb, b21, if_neg (by decide), if_neg (by decide)]
      refine sR_ansG h hj hi hm hu hq hen (by rw [d 6 (by decide), c6]) (by rw [d 8 (by decide), c8]) (by rw [d 1 (by decide), c1]) (by rw [d 7 (by decide), c7]) (by rw [d 9 (by decide), c9]) (by rw [d 10 (by decide), c10]) (by rw [d 11 (by decide), c11]) (fun i' hi' k hk1 hk2 => ?_) (fun i' hi' m hm' => by rw [d 5 (by decide)]; exact cc5 i' hi' m hm') rfl rfl ?_ ?_ rfl (fun z => ?_) (fun _ => hz')
      · by_cases hk' : k = 2
        · subst hk'; rw [d2, pk_un (by omega)]
        · rw [d k hk']; exact cc i' hi' k hk1 hk2
      · show (tE _ _ _ _ _ _).2.1 = _
        rw [ht, d2, pk_us]
      · show (tE _ _ _ _ _ _).2.2 = _
        rw [ht, d 3 (by decide), c3]; exact a4
      · have z' : (tE (pWa (P i)) (pAn (P i) + 1) (pEn (P i)) (pSw (P i)) en (hasE en (pL (P i)))).2.1 = 0 := z
        rw [ht] at z'
        exact absurd z' (by show ¬ (3 : Int32) = 0; decide)
    · subst hGe
      have hk01 : k0 = 0 ∨ k0 = 1 := by
        have hne : k0 ≠ 2 := fun z => hk (by rw [z]; rfl)
        omega
      have ht : tE (pWa (P i)) (pAn (P i) + 1) (pEn (P i)) (pSw (P i)) en (hasE en (pL (P i))) = ((if k0 + 1 = 2 then 3 else 2), pEn (P i), pSw (P i)) := by
        unfold tE
        rw [if_neg (fun z => z hz'), hal, if_neg hb, b21, b2.2.2.2.1]
        rcases hk01 with rfl | rfl
        · rw [if_neg (by decide), if_pos (by decide), if_neg (by decide), if_neg (by decide)]
        · rw [if_pos (by decide), if_pos (by decide)]
      have hblm : ∀ (v : Int32) (m : Nat), m ≤ k0 → bl (G 5) i v m = bl (g 5) i v m := by
        intro v m
        induction m with
        | zero => intro _; rfl
        | succ m ih => intro hm'; simp only [bl]; rw [ih (by omega), c5, pk_un (by omega)]
      refine sR_ansG h hj hi hm hu hq hen c6 c8 c1 c7 c9 c10 c11 cc cc5 rfl rfl ?_ ?_ rfl (fun z => ?_) (fun _ => hz')
      · show (tE _ _ _ _ _ _).2.1 = _
        rw [ht, c2]; exact a3
      · show (tE _ _ _ _ _ _).2.2 = _
        rw [ht, c3]; exact a4
      · refine ⟨?_, k0 + 1, by omega, ?_, ?_, ?_, ?_, fun v hv => ?_, fun hk1 => ?_⟩
        · show (tE _ _ _ _ _ _).2.2 = 0
          rw [ht]; exact b1
        · show pAn (P i) + 1 = _
          rw [b21, nI_succ]
        · rw [c4, pk_us, hk4, nI_succ]
        · show (tE _ _ _ _ _ _).1 = _
          rw [ht]
        · show cA (sE q en (pL (P i))) = _
          rw [hc.1, if_neg hen, b2.2.2.2.2.1]
        · show hasE v (sE q en (pL (P i))) = _
          rw [hc.2 v hv, b2.2.2.2.2.2.1 v hv]
          show _ = (bl (G 5) i v k0 || decide (G 5 (3 * (i + 1) + k0) = v))
          rw [hblm v k0 (Nat.le_refl _), c5, pk_us, Bool.or_comm]
        · have hk1' : k0 = 1 := by omega
          subst hk1'
          rw [c5, pk_us, pk_un (by omega)]
          intro z
          apply hb
          rw [sk 5 (by decide) (by decide)]
          show (false || decide (g 5 (3 * (i + 1) + 0) = en)) = true
          rw [Nat.add_zero, z]
          simp
end ANS
