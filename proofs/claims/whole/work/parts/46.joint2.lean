/-! both sides after a call: the rest -/
section JNT2
variable {fc fm fc' fm' : wd_M} {ca : Nat → ClassId} {a b : Nat} {mo : Int32} {nw : Int64} {lt : Int32} {n : Nat} {P : Nat → PT} {K : Nat → KT} {AD : Nat → Nat} {th : Int32} {du : Nat → Int64} {g : Nat → Nat → Int32} {pa ka : Nat} {gp gk : Nat → Option Nat} {r1 r2 : Int32}
theorem J_tick (h1 : fc a = some (eR mo pa ka (nI n) nw lt)) (h2 : fc pa = some (eA (ca 0) 300 gp)) (h3 : fc ka = some (eA (ca 1) 20 gk)) (h4 : rp fc gp n P) (h5 : rk fc gk K) (h6 : pa ≠ ka) (hS : sR mo n P K du g) {t : Int64}
    (p1 : (¬ isT nw t ∧ r1 = -102 ∧ fc' = fc) ∨ (isT nw t ∧ ∃ f1 : wd_M, f1 a = some (eR mo pa ka (nI n) t (lt + nI (cL t P n))) ∧ f1 pa = some (eA (ca 0) 300 gp) ∧ rp f1 gp n (pst t P n) ∧ (∀ q : Nat, q ≠ a → (∀ j : Nat, j < n → q ≠ pAd (P j)) → f1 q = fc q) ∧ r1 = lt + nI (cL t P n) ∧ fc' = wd_up f1 a (eR mo pa ka (nI n) t 0)))
    (p2 : (¬ isT nw t ∧ r2 = -102 ∧ rM fm' ca b AD 0 mo n nw lt du g) ∨ (isT nw t ∧ r2 = lt + nI (mC t du (g 2) n) ∧ rM fm' ca b AD 0 mo n t 0 du (va_up g 2 (mE t du (g 2) n)))) :
    r1 = r2 ∧ JR fc' fm' ca a b := by
  have hC := rC_mk h1 h2 h3 h4 h5 h6
  rcases p1 with ⟨c1, e1, rfl⟩ | ⟨c1, f1, g1, g2, g3, g4, e1, rfl⟩
  · rcases p2 with ⟨-, e2, m⟩ | ⟨c2, -⟩
    · exact ⟨e1.trans e2.symm, _, _, _, _, _, _, _, _, _, _, hC, m, hS⟩
    · exact absurd c2 c1
  · rcases p2 with ⟨c2, -⟩ | ⟨-, e2, m⟩
    · exact absurd c1 c2
    · have hP := rC_pass h1 h3 h4 h5 h6 g1 g2 g3 g4
      refine ⟨by rw [e1, e2, cL_mC n hS.1], mo, t, 0, n, pst t P n, K, _, _, _, _, ?_, m, sR_pass t hS⟩
      refine rC_obj hP (fun pa' ka' md' hh => ?_)
      rw [g1] at hh
      have := Option.some.inj hh
      simp only [Sum.inr.injEq, Prod.mk.injEq, List.cons.injEq, Value.ref.injEq, Value.int.injEq] at this
      rw [this.2.2.1, this.2.2.2.1, this.2.2.2.2.1]
theorem J_give (h1 : fc a = some (eR mo pa ka (nI n) nw lt)) (h2 : fc pa = some (eA (ca 0) 300 gp)) (h3 : fc ka = some (eA (ca 1) 20 gk)) (h4 : rp fc gp n P) (h5 : rk fc gk K) (h6 : pa ≠ ka) (hM : rM fm ca b AD th mo n nw lt du g) (hS : sR mo n P K du g) {x : Int32} {t : Int64}
    (p1 : ((∀ j : Nat, j < 20 → x ≠ nI j) ∧ r1 = -101 ∧ fc' = fc) ∨ ∃ j : Nat, j < 20 ∧ x = nI j ∧ ((¬ isT nw t ∧ r1 = -102 ∧ fc' = fc) ∨ (isT nw t ∧ (((kIn (K j) = 0 ∨ kTu (K j) ≠ none) ∧ r1 = -103 ∧ fc' = fc) ∨ ((¬ kIn (K j) = 0 ∧ kTu (K j) = none) ∧ ∃ f1 : wd_M, f1 a = some (eR mo pa ka (nI n) t (lt + nI (cL t P n))) ∧ f1 pa = some (eA (ca 0) 300 gp) ∧ rp f1 gp n (pst t P n) ∧ (∀ q : Nat, q ≠ a → (∀ j : Nat, j < n → q ≠ pAd (P j)) → f1 q = fc q) ∧ ((gvn (pst t P n) (nI j) (kOf (K j)) (kSk (K j)) n = none ∧ r1 = 0 ∧ fc' = f1) ∨ ∃ (b q : Nat) (la : Option Nat), gvn (pst t P n) (nI j) (kOf (K j)) (kSk (K j)) n = some b ∧ b < n ∧ f1 q = none ∧ f1 (pAd (pst t P n b)) = some (eQ (nI (b + 1)) (pst t P n b) la) ∧ r1 = nI (b + 1) ∧ fc' = wd_up (wd_up (wd_up f1 q (eT (nI (b + 1)) (nI j) (kOf (K j)) la (-1))) (pAd (pst t P n b)) (eP (nI (b + 1)) (pDu (pst t P n b)) (pSk (pst t P n b)) (pWa (pst t P n b)) (pAn (pst t P n b)) (pEn (pst t P n b)) (pSw (pst t P n b)) (some q))) (kAd (K j)) (eK (nI j) (kIn (K j)) (kOf (K j)) (kSk (K j)) (some q))))))))
    (p2 : (¬ okK x ∧ r2 = -101 ∧ rM fm' ca b AD 0 mo n nw lt du g) ∨ ∃ j : Nat, j < 20 ∧ x = nI j ∧ ((¬ isT nw t ∧ r2 = -102 ∧ rM fm' ca b AD 0 mo n nw lt du g) ∨ (isT nw t ∧ (((g 9 j = 0 ∨ ¬ nI (hd (g 6) j n) ≤ 0) ∧ r2 = -103 ∧ rM fm' ca b AD 0 mo n nw lt du g) ∨ ((¬ g 9 j = 0 ∧ nI (hd (g 6) j n) ≤ 0) ∧ ((mbs du (fun i => decide (mfr (pG g t du n) i j)) n n = 0 ∧ r2 = 0 ∧ rM fm' ca b AD 0 mo n t (lt + nI (mC t du (g 2) n)) du (pG g t du n)) ∨ ∃ b1 : Nat, mbs du (fun i => decide (mfr (pG g t du n) i j)) n n = b1 + 1 ∧ r2 = nI (b1 + 1) ∧ rM fm' ca b AD 0 mo n t (lt + nI (mC t du (g 2) n)) du (gG (pG g t du n) b1 j))))))) :
    r1 = r2 ∧ JR fc' fm' ca a b := by
  have hC := rC_mk h1 h2 h3 h4 h5 h6
  have hn := hM.2.2.2.2
  rcases p1 with ⟨c1, e1, rfl⟩ | ⟨j, hj, hx, p1⟩
  · rcases p2 with ⟨-, e2, m⟩ | ⟨j', hj', hx', -⟩
    · exact ⟨e1.trans e2.symm, _, _, _, _, _, _, _, _, _, _, hC, m, hS⟩
    · exact absurd hx' (c1 j' hj')
  · rcases p2 with ⟨c2, -⟩ | ⟨j', hj', hx', p2⟩
    · exact absurd (okK_of hj hx) c2
    · have := nI_uniq hj hj' hx hx'
      subst this
      have hcl := hS.2.1 j' hj
      have htu := hd_tu hn (hS.2.2.1 j' hj)
      rcases p1 with ⟨c3, e1, rfl⟩ | ⟨c3, p1⟩
      · rcases p2 with ⟨-, e2, m⟩ | ⟨c4, -⟩
        · exact ⟨e1.trans e2.symm, _, _, _, _, _, _, _, _, _, _, hC, m, hS⟩
        · exact absurd c4 c3
      · rcases p2 with ⟨c4, -⟩ | ⟨-, p2⟩
        · exact absurd c3 c4
        · rcases p1 with ⟨c5, e1, rfl⟩ | ⟨c5, f1, g1, g2, g3, g4, p1⟩
          · rcases p2 with ⟨-, e2, m⟩ | ⟨c6, -⟩
            · exact ⟨e1.trans e2.symm, _, _, _, _, _, _, _, _, _, _, hC, m, hS⟩
            · rcases c5 with z | z
              · exact absurd (hcl.1.symm.trans z) c6.1
              · exact absurd (htu.mpr c6.2) z
          · rcases p2 with ⟨c6, -⟩ | ⟨-, p2⟩
            · rcases c6 with z | z
              · exact absurd (hcl.1.trans z) c5.1
              · exact absurd (htu.mp c5.2) z
            · have hP := rC_pass h1 h3 h4 h5 h6 g1 g2 g3 g4
              have hS1 := sR_pass t hS
              have hcl1 := hS1.2.1 j' hj
              have hF : ∀ i : Nat, i < n → (frP (pst t P n i) (nI j') (kOf (K j')) (kSk (K j')) = true ↔ (fun i => decide (mfr (pG g t du n) i j')) i = true) := fun i hi => by
                rw [hcl1.2.1, hcl1.2.2.1, pR_free (hS1.1 i hi) hj]
                exact (decide_eq_true_iff).symm
              have hbs := best_same hF (fun i hi => (hS1.1 i hi).1)
              have hlt : lt + nI (cL t P n) = lt + nI (mC t du (g 2) n) := by rw [cL_mC n hS.1]
              rw [hlt] at hP
              rcases p1 with ⟨c7, e1, rfl⟩ | ⟨b0, q, la, c7, hb0, hq, hpb, e1, rfl⟩
              · rcases hbs with ⟨-, z2⟩ | ⟨b', -, z1, -⟩
                · rcases p2 with ⟨-, e2, m⟩ | ⟨b1, c8, -⟩
                  · exact ⟨e1.trans e2.symm, _, _, _, _, _, _, _, _, _, _, hP, m, hS1⟩
                  · rw [z2] at c8; omega
                · rw [c7] at z1; cases z1
              · rcases hbs with ⟨z1, -⟩ | ⟨b', hb', z1, z2⟩
                · rw [c7] at z1; cases z1
                · have hbb : b' = b0 := by rw [c7] at z1; exact (Option.some.inj z1).symm
                  subst hbb
                  rcases p2 with ⟨c8, -⟩ | ⟨b1, c8, e2, m⟩
                  · rw [z2] at c8; omega
                  · have hb1 : b1 = b' := by rw [z2] at c8; omega
                    subst hb1
                    have hfr := (gvn_spec (P := pst t P n) (no := nI j') (o := kOf (K j')) (ks := kSk (K j')) n).2 b1 c7
                    have hmf : mfr (pG g t du n) b1 j' := of_decide_eq_true ((hF b1 hb').mp hfr.2.2.1)
                    refine ⟨e1.trans e2.symm, mo, t, _, n, _, _, _, _, _, _, ?_, m, sR_give hS1 hj hb' hmf.1.2 c5.2 q⟩
                    have q1 := rC_new hP (e := eT (nI (b1 + 1)) (nI j') (kOf (K j')) la (-1)) hq
                    obtain ⟨-, la', hpb', hcb⟩ := g3.2.1 b1 hb'
                    have hla : la' = la := by
                      rw [hpb] at hpb'
                      have := Option.some.inj hpb'
                      simp only [Sum.inr.injEq, Prod.mk.injEq, List.cons.injEq, Value.int.injEq, Value.long.injEq] at this
                      have z := this.2.2.2.2.2.2.2.2.1
                      cases la <;> cases la' <;> simp [va_rf] at z ⊢
                      exact z.symm
                    rw [hla] at hcb
                    have q2 := rC_pic q1 hb' (x := setL (pst t P n b1) ((q, nI j', kOf (K j'), -1) :: pL (pst t P n b1))) (la := some q) rfl ⟨rfl, la, wd_us, cx_upN hq hcb⟩
                    exact rC_clerk q2 hj (x := (kAd (K j'), kIn (K j'), kOf (K j'), kSk (K j'), some q)) rfl
theorem J_answer (h1 : fc a = some (eR mo pa ka (nI n) nw lt)) (h2 : fc pa = some (eA (ca 0) 300 gp)) (h3 : fc ka = some (eA (ca 1) 20 gk)) (h4 : rp fc gp n P) (h5 : rk fc gk K) (h6 : pa ≠ ka) (hM : rM fm ca b AD th mo n nw lt du g) (hS : sR mo n P K du g) {x y en : Int32} {t : Int64}
    (p1 : (((∀ j : Nat, j < 20 → x ≠ nI j) ∨ (∀ i : Nat, i < n → y ≠ nI (i + 1))) ∧ r1 = -101 ∧ fc' = fc) ∨ ∃ j i : Nat, j < 20 ∧ i < n ∧ x = nI j ∧ y = nI (i + 1) ∧ ((¬ (wi en 9999 ∧ isT nw t) ∧ r1 = -102 ∧ fc' = fc) ∨ ((wi en 9999 ∧ isT nw t) ∧ (((∀ (q : Nat) (ck to : Int32) (ea : Option Nat) (te : Int32), ¬ (kTu (K j) = some q ∧ fc q = some (eT (nI (i + 1)) ck to ea te))) ∧ r1 = -103 ∧ fc' = fc) ∨ ∃ (q : Nat) (ck to : Int32) (ea : Option Nat) (te : Int32), kTu (K j) = some q ∧ fc q = some (eT (nI (i + 1)) ck to ea te) ∧ ∃ f1 : wd_M, f1 a = some (eR mo pa ka (nI n) t (lt + nI (cL t P n))) ∧ f1 pa = some (eA (ca 0) 300 gp) ∧ rp f1 gp n (pst t P n) ∧ (∀ q : Nat, q ≠ a → (∀ j : Nat, j < n → q ≠ pAd (P j)) → f1 q = fc q) ∧ ∃ la : Option Nat, f1 (pAd (pst t P n i)) = some (eQ (nI (i + 1)) (pst t P n i) la) ∧ r1 = stt (tE (pWa (pst t P n i)) (pAn (pst t P n i) + 1) (pEn (pst t P n i)) (pSw (pst t P n i)) en (hasE en (pL (pst t P n i)))).2.1 (tE (pWa (pst t P n i)) (pAn (pst t P n i) + 1) (pEn (pst t P n i)) (pSw (pst t P n i)) en (hasE en (pL (pst t P n i)))).1 (tk (sE q en (pL (pst t P n i)))) ∧ fc' = wd_up (wd_up (wd_up f1 (kAd (K j)) (eK (nI j) (kIn (K j)) (kOf (K j)) (kSk (K j)) none)) q (eT (nI (i + 1)) ck to ea en)) (pAd (pst t P n i)) (eP (nI (i + 1)) (pDu (pst t P n i)) (pSk (pst t P n i)) (tE (pWa (pst t P n i)) (pAn (pst t P n i) + 1) (pEn (pst t P n i)) (pSw (pst t P n i)) en (hasE en (pL (pst t P n i)))).1 (pAn (pst t P n i) + 1) (tE (pWa (pst t P n i)) (pAn (pst t P n i) + 1) (pEn (pst t P n i)) (pSw (pst t P n i)) en (hasE en (pL (pst t P n i)))).2.1 (tE (pWa (pst t P n i)) (pAn (pst t P n i) + 1) (pEn (pst t P n i)) (pSw (pst t P n i)) en (hasE en (pL (pst t P n i)))).2.2 la)))))
    (p2 : ((¬ okK x ∨ ¬ (¬ y < 1 ∧ ¬ nI n < y)) ∧ r2 = -101 ∧ rM fm' ca b AD 0 mo n nw lt du g) ∨ ∃ j i : Nat, j < 20 ∧ i < n ∧ x = nI j ∧ y = nI (i + 1) ∧ ((¬ (wi en 9999 ∧ isT nw t) ∧ r2 = -102 ∧ rM fm' ca b AD 0 mo n nw lt du g) ∨ ((wi en 9999 ∧ isT nw t) ∧ ((¬ nI (hd (g 6) j n) = nI (i + 1) ∧ r2 = -103 ∧ rM fm' ca b AD 0 mo n nw lt du g) ∨ (nI (hd (g 6) j n) = nI (i + 1) ∧ ∃ G : Nat → Nat → Int32, rM fm' ca b AD 0 mo n t (lt + nI (mC t du (g 2) n)) du G ∧ r2 = mst G i ∧ ((¬ aG g t du n i j en 2 (i + 1) = 0 ∧ G = aG g t du n i j en) ∨ (aG g t du n i j en 2 (i + 1) = 0 ∧ ∃ k : Nat, k ≤ 2 ∧ g 4 (i + 1) = nI k ∧ ((bl (aG g t du n i j en 5) i en k = true ∧ G = tB (aG g t du n i j en) i k en) ∨ (¬ bl (aG g t du n i j en 5) i en k = true ∧ nI k = 2 ∧ G = tC (aG g t du n i j en) i k en) ∨ (¬ bl (aG g t du n i j en 5) i en k = true ∧ ¬ nI k = 2 ∧ G = tA (aG g t du n i j en) i k en))))))))) :
    r1 = r2 ∧ JR fc' fm' ca a b := by
  have hC := rC_mk h1 h2 h3 h4 h5 h6
  have hn := hM.2.2.2.2
  rcases p1 with ⟨c1, e1, rfl⟩ | ⟨j, i, hj, hi, hx, hy, p1⟩
  · rcases p2 with ⟨-, e2, m⟩ | ⟨j', i', hj', hi', hx', hy', -⟩
    · exact ⟨e1.trans e2.symm, _, _, _, _, _, _, _, _, _, _, hC, m, hS⟩
    · rcases c1 with c1 | c1
      · exact absurd hx' (c1 j' hj')
      · exact absurd hy' (c1 i' hi')
  · rcases p2 with ⟨c2, -⟩ | ⟨j', i', hj', hi', hx', hy', p2⟩
    · rcases c2 with c2 | c2
      · exact absurd (okK_of hj hx) c2
      · exact absurd (okN_ex hn hi hy) c2
    · have ej := nI_uniq hj hj' hx hx'
      subst ej
      have ei := nI_uniq1 hn hi hi' hy hy'
      subst ei
      have hh := hS.2.2.1 j' hj
      rcases p1 with ⟨c3, e1, rfl⟩ | ⟨c3, p1⟩
      · rcases p2 with ⟨-, e2, m⟩ | ⟨c4, -⟩
        · exact ⟨e1.trans e2.symm, _, _, _, _, _, _, _, _, _, _, hC, m, hS⟩
        · exact absurd c4 c3
      · rcases p2 with ⟨c4, -⟩ | ⟨-, p2⟩
        · exact absurd c3 c4
        · rcases p1 with ⟨c5, e1, rfl⟩ | ⟨q, ck, to, ea, te, c5, hq, f1, g1, g2, g3, g4, la, hpb, e1, rfl⟩
          · rcases p2 with ⟨-, e2, m⟩ | ⟨c6, -⟩
            · exact ⟨e1.trans e2.symm, _, _, _, _, _, _, _, _, _, _, hC, m, hS⟩
            · exfalso
              rcases hh with ⟨-, k2⟩ | ⟨i0, q, o, k1, k2, k3, k4⟩
              · rw [hd_none n k2, nI_eq (by omega) (by omega)] at c6; omega
              · rw [hd_some n k1 k4, nI_eq (by omega) (by omega)] at c6
                have : i0 = i' := by omega
                subst this
                obtain ⟨er, he⟩ := rp_turnAt h4 k1 k3
                exact c5 q _ _ er _ ⟨k2, he⟩
          · rcases hh with ⟨k1, -⟩ | ⟨i0, q', o, k1, k2, k3, k4⟩
            · rw [c5] at k1; cases k1
            · have hqq : q' = q := by rw [c5] at k2; exact (Option.some.inj k2).symm
              subst hqq
              obtain ⟨er, he⟩ := rp_turnAt h4 k1 k3
              obtain ⟨z1, z2, z3, z4⟩ := eT_inj (Option.some.inj (hq.symm.trans he))
              have hi0 : i0 = i' := by
                rw [nI_eq (by omega) (by omega)] at z1
                omega
              subst hi0
              have hqf := hq_of h4 k1 hq
              rw [z2] at hqf
              rcases p2 with ⟨c6, -⟩ | ⟨-, G, m, e2, hG⟩
              · exact absurd (by rw [hd_some n k1 k4]) c6
              · have hP := rC_pass h1 h3 h4 h5 h6 g1 g2 g3 g4
                have hS1 := sR_pass t hS
                have hlt : lt + nI (cL t P n) = lt + nI (mC t du (g 2) n) := by rw [cL_mC n hS.1]
                rw [hlt] at hP
                have hpl : pL (pst t P n i0) = pL (P i0) := by
                  unfold pst
                  split <;> rfl
                have k4' : ∀ i' : Nat, i' < n → (pG g t du n 6 (20 * i' + j') = 2 ↔ i' = i0) := fun i' hi' => by
                  unfold pG
                  rw [vu_ne (show (6 : Nat) ≠ 2 by decide)]
                  exact k4 i' hi'
                have e4 : pG g t du n 4 = g 4 := by unfold pG; exact vu_ne (by decide)
                have hS2 := sR_answer (q := q') (o := o) (en := en) hS1 hj k1 (by rw [hpl]; exact k3) k4' (by rw [hpl]; exact hqf) c3.1.1 (G := G) (by rw [e4]; exact hG)
                refine ⟨?_, mo, t, _, n, _, _, _, _, _, _, ?_, m, hS2⟩
                · have hp := pR_state (hS2.1 i0 k1)
                  rw [vp_us] at hp
                  rw [e1, e2]
                  exact hp
                · have hqf1 : f1 q' = some (eT (nI (i0 + 1)) ck to ea te) := tu_keep hq h1 h4 g4
                  have q1 := rC_clerk hP hj (x := (kAd (K j'), kIn (K j'), kOf (K j'), kSk (K j'), none)) rfl
                  have hkc : f1 (kAd (K j')) = some (eJ (nI j') (K j')) := (rk_keep h5 h1 h4 g4 j' hj).2
                  have hqf2 : wd_up f1 (kAd (K j')) (eJ (nI j') (kAd (K j'), kIn (K j'), kOf (K j'), kSk (K j'), none)) q' = some (eT (nI (i0 + 1)) ck to ea te) := by
                    rw [wd_un (wd_ne hqf1 hkc (by decide))]; exact hqf1
                  have q2 := rC_turn q1 k1 (x := en) hqf2
                  obtain ⟨-, la', hpb', hcb⟩ := g3.2.1 i0 k1
                  have hla : la' = la := by
                    rw [hpb] at hpb'
                    have := Option.some.inj hpb'
                    simp only [Sum.inr.injEq, Prod.mk.injEq, List.cons.injEq, Value.int.injEq, Value.long.injEq] at this
                    have z := this.2.2.2.2.2.2.2.2.1
                    cases la <;> cases la' <;> simp [va_rf] at z ⊢
                    exact z.symm
                  rw [hla] at hcb
                  have hcx : cx (wd_up (wd_up f1 (kAd (K j')) (eJ (nI j') (kAd (K j'), kIn (K j'), kOf (K j'), kSk (K j'), none))) q' (eT (nI (i0 + 1)) ck to ea en)) (nI (i0 + 1)) (sE q' en (pL (pst t P n i0))) la := cx_entry hqf2 _ _ (cx_upC hkc (by decide) hcb)
                  have q3 := rC_pic q2 k1 (x := xA (pst t P n i0) q' en) (la := la) (by rw [vp_us]; rfl) hcx
                  rw [vp_us, vp_uu] at q3
                  exact q3
end JNT2
