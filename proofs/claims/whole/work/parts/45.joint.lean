/-! both sides after a call -/
def JR (fc fm : wd_M) (ca : Nat → ClassId) (a b : Nat) : Prop := ∃ (mo : Int32) (nw : Int64) (lt : Int32) (n : Nat) (P : Nat → PT) (K : Nat → KT) (AD : Nat → Nat) (th : Int32) (du : Nat → Int64) (g : Nat → Nat → Int32), rC fc ca a mo nw lt n P K ∧ rM fm ca b AD th mo n nw lt du g ∧ sR mo n P K du g
theorem n300 {n : Nat} (h : n ≤ 300) : ¬ nI n < 300 ↔ nI n = 300 := by
  rw [show (300 : Int32) = nI 300 from rfl, nI_ltI (by omega) (by omega), nI_eq (by omega) (by omega)]
  omega
theorem nI_uniq {x : Int32} {j j' : Nat} (hj : j < 20) (hj' : j' < 20) (h : x = nI j) (h' : x = nI j') : j' = j := by
  have e := h'.symm.trans h
  rw [nI_eq (by omega) (by omega)] at e
  exact e
theorem nI_uniq1 {x : Int32} {i i' n : Nat} (hn : n ≤ 300) (hi : i < n) (hi' : i' < n) (h : x = nI (i + 1)) (h' : x = nI (i' + 1)) : i' = i := by
  have e := h'.symm.trans h
  rw [nI_eq (by omega) (by omega)] at e
  omega
theorem noK_ok {x : Int32} (h : ∀ j : Nat, j < 20 → x ≠ nI j) : ¬ okK x := fun z => by
  obtain ⟨j, hj, e⟩ := ok20 z.1 z.2
  exact h j hj e
theorem noP_ok {x : Int32} {n : Nat} (hn : n ≤ 300) (h : ∀ i : Nat, i < n → x ≠ nI (i + 1)) : ¬ (¬ x < 1 ∧ ¬ nI n < x) := fun z => by
  obtain ⟨i, hi, e⟩ := okN_of hn z.1 z.2
  exact h i hi e
theorem okN_ex {x : Int32} {n i : Nat} (hn : n ≤ 300) (hi : i < n) (hx : x = nI (i + 1)) : ¬ x < 1 ∧ ¬ nI n < x := by
  subst hx
  exact ⟨nI_nlt (by omega : 1 ≤ i + 1) (by omega), nI_nlt (by omega : i + 1 ≤ n) (by omega)⟩
theorem hd_tu {n : Nat} {P : Nat → PT} {tu : Option Nat} {g : Nat → Nat → Int32} {j : Nat} (hn : n ≤ 300) (h : hR n P tu g j) : tu = none ↔ nI (hd (g 6) j n) ≤ 0 := by
  rw [nI_le0 (hd_lt hn)]
  rcases h with ⟨h1, h2⟩ | ⟨i, q, o, h1, h2, h3, h4⟩
  · exact ⟨fun _ => hd_none n h2, fun _ => h1⟩
  · rw [hd_some n h1 h4, h2]
    exact ⟨fun z => (by cases z), fun z => (by omega)⟩
section JNT
variable {fc fm fc' fm' : wd_M} {ca : Nat → ClassId} {a b : Nat} {mo : Int32} {nw : Int64} {lt : Int32} {n : Nat} {P : Nat → PT} {K : Nat → KT} {AD : Nat → Nat} {th : Int32} {du : Nat → Int64} {g : Nat → Nat → Int32} {pa ka : Nat} {gp gk : Nat → Option Nat} {r1 r2 : Int32}
theorem rC_mk (h1 : fc a = some (eR mo pa ka (nI n) nw lt)) (h2 : fc pa = some (eA (ca 0) 300 gp)) (h3 : fc ka = some (eA (ca 1) 20 gk)) (h4 : rp fc gp n P) (h5 : rk fc gk K) (h6 : pa ≠ ka) : rC fc ca a mo nw lt n P K := ⟨pa, ka, gp, gk, h1, h2, h3, h4, h5, h6⟩
theorem rC_pass (h1 : fc a = some (eR mo pa ka (nI n) nw lt)) (h3 : fc ka = some (eA (ca 1) 20 gk)) (h4 : rp fc gp n P) (h5 : rk fc gk K) (h6 : pa ≠ ka) {t : Int64} (g1 : fc' a = some (eR mo pa ka (nI n) t (lt + nI (cL t P n)))) (g2 : fc' pa = some (eA (ca 0) 300 gp)) (g3 : rp fc' gp n (pst t P n)) (g4 : ∀ q : Nat, q ≠ a → (∀ j : Nat, j < n → q ≠ pAd (P j)) → fc' q = fc q) : rC fc' ca a mo t (lt + nI (cL t P n)) n (pst t P n) K :=
  ⟨pa, ka, gp, gk, g1, g2, ar_keep h3 h1 h4 g4, g3, rk_keep h5 h1 h4 g4, h6⟩
theorem J_picture (h1 : fc a = some (eR mo pa ka (nI n) nw lt)) (h2 : fc pa = some (eA (ca 0) 300 gp)) (h3 : fc ka = some (eA (ca 1) 20 gk)) (h4 : rp fc gp n P) (h5 : rk fc gk K) (h6 : pa ≠ ka) (hM : rM fm ca b AD th mo n nw lt du g) (hS : sR mo n P K du g) {t : Int64} {sk : Int32}
    (p1 : (¬ (isT nw t ∧ wi sk 3) ∧ r1 = -102 ∧ fc' = fc) ∨ ((isT nw t ∧ wi sk 3) ∧ ((¬ nI n < 300 ∧ r1 = -104 ∧ fc' = fc) ∨ (nI n < 300 ∧ ((¬ nI (cW P n) < mo ∧ r1 = 0 ∧ fc' = fc) ∨ (nI (cW P n) < mo ∧ ∃ q : Nat, fc q = none ∧ r1 = nI (n + 1) ∧ fc' = wd_up (wd_up (wd_up fc q (eP (nI (n + 1)) t sk 2 0 0 0 none)) pa (eA (ca 0) 300 (va_up gp n (some q)))) a (eR mo pa ka (nI (n + 1)) nw lt)))))))
    (p2 : (¬ (isT nw t ∧ wi sk 3) ∧ r2 = -102 ∧ rM fm' ca b AD 0 mo n nw lt du g) ∨ ((isT nw t ∧ wi sk 3) ∧ ((nI n = 300 ∧ r2 = -104 ∧ rM fm' ca b AD 0 mo n nw lt du g) ∨ (¬ nI n = 300 ∧ ((nI (oW (g 2) n) = mo ∧ r2 = 0 ∧ rM fm' ca b AD 0 mo n nw lt du g) ∨ (¬ nI (oW (g 2) n) = mo ∧ r2 = nI (n + 1) ∧ rM fm' ca b AD 0 mo (n + 1) nw lt (vp_updL du (n + 1) t) (va_up g 1 (upd (g 1) (n + 1) sk)))))))) :
    r1 = r2 ∧ JR fc' fm' ca a b := by
  have hC := rC_mk h1 h2 h3 h4 h5 h6
  have hn := hM.2.2.2.2
  have hcw : ¬ nI (cW P n) < mo ↔ nI (oW (g 2) n) = mo := by
    obtain ⟨M, m1, m2, m3, m4⟩ := hS.2.2.2.2.2
    rw [← cW_oW n hS.1, m3, nI_ltI (by omega) (by omega), nI_eq (by omega) (by omega)]
    omega
  rcases p1 with ⟨c1, e1, rfl⟩ | ⟨c1, p1⟩
  · rcases p2 with ⟨-, e2, m⟩ | ⟨c2, -⟩
    · exact ⟨e1.trans e2.symm, _, _, _, _, _, _, _, _, _, _, hC, m, hS⟩
    · exact absurd c2 c1
  · rcases p2 with ⟨c2, -⟩ | ⟨-, p2⟩
    · exact absurd c1 c2
    · rcases p1 with ⟨c3, e1, rfl⟩ | ⟨c3, p1⟩
      · rcases p2 with ⟨-, e2, m⟩ | ⟨c4, -⟩
        · exact ⟨e1.trans e2.symm, _, _, _, _, _, _, _, _, _, _, hC, m, hS⟩
        · exact absurd ((n300 hn).mp c3) c4
      · rcases p2 with ⟨c4, -⟩ | ⟨-, p2⟩
        · exact absurd c3 ((n300 hn).mpr c4)
        · rcases p1 with ⟨c5, e1, rfl⟩ | ⟨c5, q, hq, e1, rfl⟩
          · rcases p2 with ⟨-, e2, m⟩ | ⟨c6, -⟩
            · exact ⟨e1.trans e2.symm, _, _, _, _, _, _, _, _, _, _, hC, m, hS⟩
            · exact absurd (hcw.mp c5) c6
          · rcases p2 with ⟨c6, -⟩ | ⟨-, e2, m⟩
            · exact absurd c5 (hcw.mpr c6)
            · have hn3 : n < 300 := by
                rw [show (300 : Int32) = nI 300 from rfl, nI_ltI (by omega) (by omega)] at c3
                exact c3
              refine ⟨e1.trans e2.symm, mo, nw, lt, n + 1, va_up P n (q, t, sk, 2, 0, 0, 0, []), K, _, _, _, _, ?_, m, sR_picture hS hn3 q t sk c5⟩
              have npa : pa ≠ a := Ne.symm (wd_neA h1 h2)
              have nka : ka ≠ a := Ne.symm (wd_neA h1 h3)
              have nqa : q ≠ a := Ne.symm (wd_neF h1 hq)
              have nqp : q ≠ pa := Ne.symm (wd_neF h2 hq)
              have nqk : ka ≠ q := wd_neF h3 hq
              have s1 : ∀ e, wd_up fc q e pa = some (eA (ca 0) 300 gp) := fun e => by rw [wd_un (Ne.symm nqp)]; exact h2
              have s2 : ∀ e e', wd_up (wd_up fc q e) pa e' a = some (eR mo pa ka (nI n) nw lt) := fun e e' => by rw [wd_un (Ne.symm npa), wd_un (Ne.symm nqa)]; exact h1
              refine ⟨pa, ka, va_up gp n (some q), gk, wd_us, by rw [wd_un npa, wd_us], by rw [wd_un nka, wd_un (Ne.symm h6), wd_un nqk]; exact h3, ⟨by omega, fun i hi => ?_, fun i hi => ?_⟩, rk_off (rk_arr (rk_new h5 hq) (s1 _)) (s2 _ _) (by decide), h6⟩
              · by_cases hin : i = n
                · subst hin
                  rw [vp_us, vp_us]
                  exact ⟨rfl, none, by rw [show pAd ((q, t, sk, 2, 0, 0, 0, []) : PT) = q from rfl, wd_un nqa, wd_un nqp, wd_us]; rfl, rfl⟩
                · rw [vp_un hin, vp_un hin]
                  obtain ⟨k1, la, k2, k3⟩ := h4.2.1 i (by omega)
                  refine ⟨k1, la, ?_, cx_upC (s2 _ _) (by decide) (cx_upA (s1 _) (cx_upN hq k3))⟩
                  rw [wd_un (wd_ne k2 h1 (by decide)), wd_un (wd_neA k2 h2), wd_un (wd_neF k2 hq)]
                  exact k2
              · rw [vp_un (by omega)]
                exact h4.2.2 i (by omega)
theorem J_office (h1 : fc a = some (eR mo pa ka (nI n) nw lt)) (h2 : fc pa = some (eA (ca 0) 300 gp)) (h3 : fc ka = some (eA (ca 1) 20 gk)) (h4 : rp fc gp n P) (h5 : rk fc gk K) (h6 : pa ≠ ka) (hS : sR mo n P K du g) {x o sk : Int32}
    (p1 : ((∀ j : Nat, j < 20 → x ≠ nI j) ∧ r1 = -101 ∧ fc' = fc) ∨ ∃ j : Nat, j < 20 ∧ x = nI j ∧ ((¬ (wi o 4 ∧ wi sk 3) ∧ r1 = -102 ∧ fc' = fc) ∨ ((wi o 4 ∧ wi sk 3) ∧ (((¬ kIn (K j) = 0 ∧ kOf (K j) = o ∧ kSk (K j) = sk) ∧ r1 = 0 ∧ fc' = fc) ∨ (¬ (¬ kIn (K j) = 0 ∧ kOf (K j) = o ∧ kSk (K j) = sk) ∧ r1 = 1 ∧ fc' = wd_up fc (kAd (K j)) (eK (nI j) 1 o sk (kTu (K j))))))))
    (p2 : (¬ okK x ∧ r2 = -101 ∧ rM fm' ca b AD 0 mo n nw lt du g) ∨ ∃ j : Nat, j < 20 ∧ x = nI j ∧ ((¬ (wi o 4 ∧ wi sk 3) ∧ r2 = -102 ∧ rM fm' ca b AD 0 mo n nw lt du g) ∨ ((wi o 4 ∧ wi sk 3) ∧ r2 = (if ¬ g 9 j = 0 ∧ g 10 j = o ∧ g 11 j = sk then 0 else 1) ∧ rM fm' ca b AD 0 mo n nw lt du (va_up (va_up (va_up g 9 (upd (g 9) j 1)) 10 (upd ((va_up g 9 (upd (g 9) j 1)) 10) j o)) 11 (upd ((va_up (va_up g 9 (upd (g 9) j 1)) 10 (upd ((va_up g 9 (upd (g 9) j 1)) 10) j o)) 11) j sk))))) :
    r1 = r2 ∧ JR fc' fm' ca a b := by
  have hC := rC_mk h1 h2 h3 h4 h5 h6
  rcases p1 with ⟨c1, e1, rfl⟩ | ⟨j, hj, hx, p1⟩
  · rcases p2 with ⟨-, e2, m⟩ | ⟨j', hj', hx', -⟩
    · exact ⟨e1.trans e2.symm, _, _, _, _, _, _, _, _, _, _, hC, m, hS⟩
    · exact absurd hx' (c1 j' hj')
  · rcases p2 with ⟨c2, -⟩ | ⟨j', hj', hx', p2⟩
    · exact absurd (okK_of hj hx) c2
    · have := nI_uniq hj hj' hx hx'
      subst this
      have hcl := hS.2.1 j' hj
      rcases p1 with ⟨c3, e1, rfl⟩ | ⟨c3, p1⟩
      · rcases p2 with ⟨-, e2, m⟩ | ⟨c4, -⟩
        · exact ⟨e1.trans e2.symm, _, _, _, _, _, _, _, _, _, _, hC, m, hS⟩
        · exact absurd c4 c3
      · rcases p2 with ⟨c4, -⟩ | ⟨-, e2, m⟩
        · exact absurd c3 c4
        · rw [← hcl.1, ← hcl.2.1, ← hcl.2.2.1] at e2
          rcases p1 with ⟨c5, e1, rfl⟩ | ⟨c5, e1, rfl⟩
          · rw [if_pos c5] at e2
            exact ⟨e1.trans e2.symm, _, _, _, _, _, _, _, _, _, _, hC, m, sR_office0 hS hj c5.1 c5.2.1 c5.2.2⟩
          · rw [if_neg c5] at e2
            exact ⟨e1.trans e2.symm, _, _, _, _, _, _, _, _, _, _, rC_clerk hC hj (x := (kAd (K j'), 1, o, sk, kTu (K j'))) rfl, m, sR_office hS hj o sk⟩
theorem hq_of (h4 : rp fc gp n P) {i q : Nat} (hi : i < n) {ck to : Int32} {ea : Option Nat} {te : Int32} (hq : fc q = some (eT (nI (i + 1)) ck to ea te)) : ∀ s ∈ pL (P i), s.1 = q → s.2.1 = ck := fun s hs z => by
  obtain ⟨er, he⟩ := rp_turnAt h4 hi hs
  rw [z, hq] at he
  exact (eT_inj (Option.some.inj he)).2.1.symm
theorem J_leave (h1 : fc a = some (eR mo pa ka (nI n) nw lt)) (h2 : fc pa = some (eA (ca 0) 300 gp)) (h3 : fc ka = some (eA (ca 1) 20 gk)) (h4 : rp fc gp n P) (h5 : rk fc gk K) (h6 : pa ≠ ka) (hM : rM fm ca b AD th mo n nw lt du g) (hS : sR mo n P K du g) {x : Int32}
    (p1 : ((∀ j : Nat, j < 20 → x ≠ nI j) ∧ r1 = -101 ∧ fc' = fc) ∨ ∃ j : Nat, j < 20 ∧ x = nI j ∧ ((kIn (K j) = 0 ∧ r1 = -103 ∧ fc' = fc) ∨ (¬ kIn (K j) = 0 ∧ ((kTu (K j) = none ∧ r1 = 0 ∧ fc' = wd_up fc (kAd (K j)) (eK (nI j) 0 (kOf (K j)) (kSk (K j)) none)) ∨ ∃ (q : Nat) (pn ck to : Int32) (ea : Option Nat) (te : Int32), kTu (K j) = some q ∧ fc q = some (eT pn ck to ea te) ∧ r1 = 1 ∧ fc' = wd_up (wd_up fc q (eT pn ck to ea (-2))) (kAd (K j)) (eK (nI j) 0 (kOf (K j)) (kSk (K j)) none)))))
    (p2 : (¬ okK x ∧ r2 = -101 ∧ rM fm' ca b AD 0 mo n nw lt du g) ∨ ∃ j : Nat, j < 20 ∧ x = nI j ∧ ((g 9 j = 0 ∧ r2 = -103 ∧ rM fm' ca b AD 0 mo n nw lt du g) ∨ (¬ g 9 j = 0 ∧ ((hd (g 6) j n = 0 ∧ r2 = 0 ∧ rM fm' ca b AD 0 mo n nw lt du (va_up g 9 (upd (g 9) j 0))) ∨ ∃ b1 : Nat, hd (g 6) j n = b1 + 1 ∧ r2 = 1 ∧ rM fm' ca b AD 0 mo n nw lt du (va_up (va_up g 9 (upd (g 9) j 0)) 6 (upd ((va_up g 9 (upd (g 9) j 0)) 6) (20 * b1 + j) 1)))))) :
    r1 = r2 ∧ JR fc' fm' ca a b := by
  have hC := rC_mk h1 h2 h3 h4 h5 h6
  rcases p1 with ⟨c1, e1, rfl⟩ | ⟨j, hj, hx, p1⟩
  · rcases p2 with ⟨-, e2, m⟩ | ⟨j', hj', hx', -⟩
    · exact ⟨e1.trans e2.symm, _, _, _, _, _, _, _, _, _, _, hC, m, hS⟩
    · exact absurd hx' (c1 j' hj')
  · rcases p2 with ⟨c2, -⟩ | ⟨j', hj', hx', p2⟩
    · exact absurd (okK_of hj hx) c2
    · have := nI_uniq hj hj' hx hx'
      subst this
      have hcl := hS.2.1 j' hj
      have hh := hS.2.2.1 j' hj
      rcases p1 with ⟨c3, e1, rfl⟩ | ⟨c3, p1⟩
      · rcases p2 with ⟨-, e2, m⟩ | ⟨c4, -⟩
        · exact ⟨e1.trans e2.symm, _, _, _, _, _, _, _, _, _, _, hC, m, hS⟩
        · exact absurd (hcl.1.symm.trans c3) c4
      · rcases p2 with ⟨c4, -⟩ | ⟨-, p2⟩
        · exact absurd (hcl.1.trans c4) c3
        · rcases p1 with ⟨c5, e1, rfl⟩ | ⟨q, pn, ck, to, ea, te, c5, hq, e1, rfl⟩
          · rcases hh with ⟨-, k2⟩ | ⟨i, q, o, k1, k2, k3, k4⟩
            · rcases p2 with ⟨-, e2, m⟩ | ⟨b1, c6, -⟩
              · exact ⟨e1.trans e2.symm, _, _, _, _, _, _, _, _, _, _, rC_clerk hC hj (x := (kAd (K j'), 0, kOf (K j'), kSk (K j'), none)) rfl, m, sR_leave0 hS hj c5⟩
              · rw [hd_none n k2] at c6; omega
            · rw [c5] at k2; cases k2
          · rcases hh with ⟨k1, -⟩ | ⟨i, q', o, k1, k2, k3, k4⟩
            · rw [c5] at k1; cases k1
            · have hqq : q' = q := by rw [c5] at k2; exact (Option.some.inj k2).symm
              subst hqq
              obtain ⟨er, he⟩ := rp_turnAt h4 k1 k3
              have hin := eT_inj (Option.some.inj (hq.symm.trans he))
              obtain ⟨z1, z2, z3, z4⟩ := hin
              subst z1
              have hqf := hq_of h4 k1 hq
              rw [z2] at hqf
              rcases p2 with ⟨c6, -⟩ | ⟨b1, c6, e2, m⟩
              · rw [hd_some n k1 k4] at c6; omega
              · have hb1 : b1 = i := by rw [hd_some n k1 k4] at c6; omega
                subst hb1
                exact ⟨e1.trans e2.symm, _, _, _, _, _, _, _, _, _, _, rC_clerk (rC_turn hC k1 hq) hj (x := (kAd (K j'), 0, kOf (K j'), kSk (K j'), none)) rfl, m, sR_leave1 hS hj k1 k3 k4 hqf⟩
end JNT
