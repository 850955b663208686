/-! reading calls, the start -/
section JNT3
variable {fc fm fm' : wd_M} {ca : Nat → ClassId} {a b : Nat} {mo : Int32} {nw : Int64} {lt : Int32} {n : Nat} {P : Nat → PT} {K : Nat → KT} {AD : Nat → Nat} {th : Int32} {du : Nat → Int64} {g : Nat → Nat → Int32} {r1 r2 : Int32}
theorem J_settled (hC : rC fc ca a mo nw lt n P K) (hM : rM fm ca b AD th mo n nw lt du g) (hS : sR mo n P K du g) {y : Int32}
    (p1 : (∃ i : Nat, i < n ∧ y = nI (i + 1) ∧ r1 = if pEn (P i) = 0 then -1 else pSw (P i)) ∨ ((∀ i : Nat, i < n → y ≠ nI (i + 1)) ∧ r1 = -101))
    (p2 : (∃ i : Nat, i < n ∧ y = nI (i + 1) ∧ r2 = (if g 2 (i + 1) = 0 then -1 else g 3 (i + 1)) ∧ rM fm' ca b AD 0 mo n nw lt du g) ∨ (¬ (¬ y < 1 ∧ ¬ nI n < y) ∧ r2 = -101 ∧ rM fm' ca b AD 0 mo n nw lt du g)) : r1 = r2 ∧ JR fc fm' ca a b := by
  have hn := hM.2.2.2.2
  rcases p1 with ⟨i, hi, hy, e1⟩ | ⟨c1, e1⟩
  · rcases p2 with ⟨i', hi', hy', e2, m⟩ | ⟨c2, -⟩
    · have := nI_uniq1 hn hi hi' hy hy'
      subst this
      have hp := hS.1 i' hi
      rw [← hp.2.2.1, ← hp.2.2.2.1] at e2
      exact ⟨e1.trans e2.symm, _, _, _, _, _, _, _, _, _, _, hC, m, hS⟩
    · exact absurd (okN_ex hn hi hy) c2
  · rcases p2 with ⟨i', hi', hy', -⟩ | ⟨-, e2, m⟩
    · exact absurd hy' (c1 i' hi')
    · exact ⟨e1.trans e2.symm, _, _, _, _, _, _, _, _, _, _, hC, m, hS⟩
theorem J_state (hC : rC fc ca a mo nw lt n P K) (hM : rM fm ca b AD th mo n nw lt du g) (hS : sR mo n P K du g) {y : Int32}
    (p1 : (∃ i : Nat, i < n ∧ y = nI (i + 1) ∧ r1 = stt (pEn (P i)) (pWa (P i)) (tk (pL (P i)))) ∨ ((∀ i : Nat, i < n → y ≠ nI (i + 1)) ∧ r1 = -101))
    (p2 : (∃ i : Nat, i < n ∧ y = nI (i + 1) ∧ r2 = mst g i ∧ rM fm' ca b AD 0 mo n nw lt du g) ∨ (¬ (¬ y < 1 ∧ ¬ nI n < y) ∧ r2 = -101 ∧ rM fm' ca b AD 0 mo n nw lt du g)) : r1 = r2 ∧ JR fc fm' ca a b := by
  have hn := hM.2.2.2.2
  rcases p1 with ⟨i, hi, hy, e1⟩ | ⟨c1, e1⟩
  · rcases p2 with ⟨i', hi', hy', e2, m⟩ | ⟨c2, -⟩
    · have := nI_uniq1 hn hi hi' hy hy'
      subst this
      rw [pR_state (hS.1 i' hi)] at e1
      exact ⟨e1.trans e2.symm, _, _, _, _, _, _, _, _, _, _, hC, m, hS⟩
    · exact absurd (okN_ex hn hi hy) c2
  · rcases p2 with ⟨i', hi', hy', -⟩ | ⟨-, e2, m⟩
    · exact absurd hy' (c1 i' hi')
    · exact ⟨e1.trans e2.symm, _, _, _, _, _, _, _, _, _, _, hC, m, hS⟩
theorem J_waiting (hC : rC fc ca a mo nw lt n P K) (hS : sR mo n P K du g) (p1 : r1 = nI (cW P n)) (p2 : r2 = nI (oW (g 2) n) ∧ rM fm' ca b AD 0 mo n nw lt du g) : r1 = r2 ∧ JR fc fm' ca a b := by
  refine ⟨?_, _, _, _, _, _, _, _, _, _, _, hC, p2.2, hS⟩
  rw [p1, p2.1, cW_oW n hS.1]
theorem mgB_eq {sd : Int32} {j1 j2 : Nat} (h1 : j1 < 20) (h2 : j2 < 20) : ∀ m : Nat, (∀ i : Nat, i < m → pR (P i) du g i) → mgB (g 8) j1 j2 sd m = (if sd = 1 then agB P (nI j1) (nI j2) m else agA P (nI j1) (nI j2) m) := by
  intro m
  induction m with
  | zero => intro _; split <;> rfl
  | succ m ih =>
    intro h
    have hl := (h m (Nat.lt_succ_self m)).2.2.2.2.1
    have a1 := lR_said hl h1
    have a2 := lR_said hl h2
    have e1 : g 8 (20 * m + j1) < 0 ↔ fndE (nI j1) (pL (P m)) < 0 := by
      rcases a1 with ⟨x, y⟩ | ⟨x, y⟩
      · exact ⟨fun _ => x, fun _ => y⟩
      · rw [y]
    have e2 : g 8 (20 * m + j2) < 0 ↔ fndE (nI j2) (pL (P m)) < 0 := by
      rcases a2 with ⟨x, y⟩ | ⟨x, y⟩
      · exact ⟨fun _ => x, fun _ => y⟩
      · rw [y]
    simp only [mgB, agB, agA]
    rw [ih (fun i hi => h i (by omega))]
    by_cases hb : ¬ fndE (nI j1) (pL (P m)) < 0 ∧ ¬ fndE (nI j2) (pL (P m)) < 0
    · have hb' : ¬ g 8 (20 * m + j1) < 0 ∧ ¬ g 8 (20 * m + j2) < 0 := ⟨fun z => hb.1 (e1.mp z), fun z => hb.2 (e2.mp z)⟩
      have b1 : g 8 (20 * m + j1) = fndE (nI j1) (pL (P m)) := by
        rcases a1 with ⟨x, y⟩ | ⟨x, y⟩
        · exact absurd x hb.1
        · exact y
      have b2 : g 8 (20 * m + j2) = fndE (nI j2) (pL (P m)) := by
        rcases a2 with ⟨x, y⟩ | ⟨x, y⟩
        · exact absurd x hb.2
        · exact y
      by_cases hsd : sd = 1
      · rw [if_pos ⟨hb', Or.inl hsd⟩, if_pos hsd, if_pos hsd, if_pos hb]
      · by_cases heq : fndE (nI j1) (pL (P m)) = fndE (nI j2) (pL (P m))
        · rw [if_pos ⟨hb', Or.inr (by rw [b1, b2]; exact heq)⟩, if_neg hsd, if_neg hsd, if_pos ⟨hb, heq⟩]
        · rw [if_neg (fun z => Or.elim z.2 hsd (fun y => heq (by rw [← b1, ← b2]; exact y))), if_neg hsd, if_neg hsd, if_neg (fun z => heq z.2)]
    · rw [if_neg (fun z => hb ⟨fun y => z.1.1 (e1.mpr y), fun y => z.1.2 (e2.mpr y)⟩)]
      by_cases hsd : sd = 1
      · rw [if_pos hsd, if_pos hsd, if_neg hb]
      · rw [if_neg hsd, if_neg hsd, if_neg (fun z => hb z.1)]
theorem mgB_le {s : Nat → Int32} {x y : Nat} {sd : Int32} : ∀ m : Nat, mgB s x y sd m ≤ m := by
  intro m
  induction m with
  | zero => exact Nat.le_refl _
  | succ m ih => simp only [mgB]; split <;> omega
theorem J_agreement {s1 s2 : Int64} (hC : rC fc ca a mo nw lt n P K) (hM : rM fm ca b AD th mo n nw lt du g) (hS : sR mo n P K du g) {x y sd : Int32} (p1 : s1 = agr P n x y sd)
    (p2 : (¬ (okK x ∧ okK y) ∧ s2 = -101 ∧ rM fm' ca b AD 0 mo n nw lt du g) ∨ ∃ j1 j2 : Nat, j1 < 20 ∧ j2 < 20 ∧ x = nI j1 ∧ y = nI j2 ∧ (((¬ wi sd 1 ∨ nI j1 = nI j2) ∧ s2 = -102 ∧ rM fm' ca b AD 0 mo n nw lt du g) ∨ (wi sd 1 ∧ ¬ nI j1 = nI j2 ∧ s2 = (nI (mgB (g 8) j1 j2 sd n)).toInt64 ∧ rM fm' ca b AD 0 mo n nw lt du g))) : s1 = s2 ∧ JR fc fm' ca a b := by
  have hn := hM.2.2.2.2
  unfold agr at p1
  rcases p2 with ⟨c1, e2, m⟩ | ⟨j1, j2, hj1, hj2, hx, hy, p2⟩
  · rw [if_pos c1] at p1
    exact ⟨p1.trans e2.symm, _, _, _, _, _, _, _, _, _, _, hC, m, hS⟩
  · rw [if_neg (fun z => z ⟨okK_of hj1 hx, okK_of hj2 hy⟩)] at p1
    subst hx
    subst hy
    rcases p2 with ⟨c2, e2, m⟩ | ⟨c2, c3, e2, m⟩
    · rw [if_pos c2] at p1
      exact ⟨p1.trans e2.symm, _, _, _, _, _, _, _, _, _, _, hC, m, hS⟩
    · rw [if_neg (fun z => Or.elim z (fun y => y c2) c3)] at p1
      refine ⟨?_, _, _, _, _, _, _, _, _, _, _, hC, m, hS⟩
      rw [p1, e2, nI_l (by have := mgB_le (s := g 8) (x := j1) (y := j2) (sd := sd) n; omega), mgB_eq hj1 hj2 n hS.1]
      split <;> rfl
theorem hT_of {gp : Nat → Option Nat} (h4 : rp fc gp n P) (hS : sR mo n P K du g) : ∀ j : Nat, j < 20 → ∀ q : Nat, kTu (K j) = some q → ∃ (pn ck to : Int32) (ea : Option Nat) (te : Int32), fc q = some (eT pn ck to ea te) := fun j hj q hq => by
  rcases hS.2.2.1 j hj with ⟨k1, -⟩ | ⟨i, q', o, k1, k2, k3, k4⟩
  · rw [hq] at k1; cases k1
  · have hqq : q' = q := by rw [hq] at k2; exact (Option.some.inj k2).symm
    subst hqq
    obtain ⟨er, he⟩ := rp_turnAt h4 k1 k3
    exact ⟨_, _, _, _, _, he⟩
theorem hA_of (hS : sR mo n P K du g) : ∀ i : Nat, i < n → g 2 (i + 1) = 0 → ∃ k : Nat, k ≤ 2 ∧ g 4 (i + 1) = nI k := fun i hi hz => by
  have hp := hS.1 i hi
  obtain ⟨-, k, hk⟩ := hp.2.2.2.2.2 (hp.2.2.1.trans hz)
  exact ⟨k, hk.1, hk.2.2.1⟩
theorem mx_my (x : Int32) : mx x = my x := by
  unfold mx my
  have e1 : (1 : Int32).toInt = 1 := by decide
  have e2 : (100 : Int32).toInt = 100 := by decide
  by_cases h1 : x < 100
  · rw [if_pos h1]
    rw [Int32.lt_iff_toInt_lt] at h1
    by_cases h2 : 1 < x
    · rw [if_pos h2, if_pos (by rw [Int32.lt_iff_toInt_lt] at h2; rw [Int32.le_iff_toInt_le]; omega), if_pos (by rw [Int32.le_iff_toInt_le]; omega)]
    · rw [if_neg h2]
      by_cases h3 : 1 ≤ x
      · have : x = 1 := by
          rw [← Int32.toInt_inj]
          rw [Int32.lt_iff_toInt_lt] at h2
          rw [Int32.le_iff_toInt_le] at h3
          omega
        rw [this]; rfl
      · rw [if_neg h3]
  · rw [if_neg h1, if_pos (by decide)]
    rw [Int32.lt_iff_toInt_lt] at h1
    rw [if_pos (by rw [Int32.le_iff_toInt_le]; omega)]
    by_cases h4 : x ≤ 100
    · rw [if_pos h4, ← Int32.toInt_inj]
      rw [Int32.le_iff_toInt_le] at h4
      omega
    · rw [if_neg h4]
theorem my_M (x : Int32) : ∃ M : Nat, 1 ≤ M ∧ M ≤ 100 ∧ my x = nI M := by
  unfold my
  by_cases h1 : 1 ≤ x
  · rw [if_pos h1]
    by_cases h2 : x ≤ 100
    · rw [if_pos h2]
      have e1 : (1 : Int32).toInt = 1 := by decide
      have e2 : (100 : Int32).toInt = 100 := by decide
      have h0 : ¬ x < 0 := fun z => by
        have e0 : (0 : Int32).toInt = 0 := by decide
        rw [Int32.lt_iff_toInt_lt] at z
        rw [Int32.le_iff_toInt_le] at h1
        omega
      obtain ⟨k, hk, rfl⟩ := nI_of h0
      rw [Int32.le_iff_toInt_le, nI_toInt hk] at h1 h2
      exact ⟨k, by omega, by omega, rfl⟩
    · rw [if_neg h2]; exact ⟨100, by decide, by decide, rfl⟩
  · rw [if_neg h1]; exact ⟨1, by decide, by decide, rfl⟩
theorem J_init {x : Int32} (p1 : ∃ (pa ka : Nat) (gk : Nat → Option Nat) (K : Nat → KT), fc a = some (eR (mx x) pa ka 0 0 0) ∧ fc pa = some (eA (ca 0) 300 (fun _ => none)) ∧ fc ka = some (eA (ca 1) 20 gk) ∧ rk fc gk K ∧ ∀ j : Nat, j < 20 → kIn (K j) = 0 ∧ kOf (K j) = 0 ∧ kSk (K j) = 0 ∧ kTu (K j) = none)
    (p2 : ∃ (AD : Nat → Nat) (g : Nat → Nat → Int32), rM fm ca b AD 0 (my x) 0 0 0 (fun _ => 0) g ∧ (∀ k : Nat, k ≠ 8 → g k = fun _ => 0) ∧ ∀ j : Nat, j < 6020 → g 8 j = -1) : JR fc fm ca a b := by
  obtain ⟨pa, ka, gk, K, h1, h2, h3, h5, hk⟩ := p1
  obtain ⟨AD, g, m, hg, hg8⟩ := p2
  have h6 : pa ≠ ka := fun z => by
    rw [z, h3] at h2
    have := Option.some.inj h2
    simp at this
  rw [mx_my] at h1
  obtain ⟨M, m1, m2, m3⟩ := my_M x
  refine ⟨my x, 0, 0, 0, fun _ => (0, 0, 0, 0, 0, 0, 0, []), K, AD, 0, _, g, ⟨pa, ka, fun _ => none, gk, h1, h2, h3, ⟨Nat.zero_le _, fun i hi => absurd hi (Nat.not_lt_zero i), fun i _ => rfl⟩, h5, h6⟩, m, fun i hi => absurd hi (Nat.not_lt_zero i), fun j hj => ?_, fun j hj => ?_, fun p _ _ => ?_, fun i _ hi j hj => ?_, M, m1, m2, m3, Nat.zero_le _⟩
  · rw [hg 9 (by decide), hg 10 (by decide), hg 11 (by decide)]
    exact ⟨(hk j hj).1, (hk j hj).2.1, (hk j hj).2.2.1, Or.inl rfl⟩
  · exact Or.inl ⟨(hk j hj).2.2.2, fun i hi => absurd hi (Nat.not_lt_zero i)⟩
  · rw [hg 2 (by decide), hg 3 (by decide), hg 4 (by decide)]
    exact ⟨rfl, rfl, rfl⟩
  · rw [hg 6 (by decide), hg8 _ (by omega)]
    exact ⟨rfl, rfl⟩
end JNT3
