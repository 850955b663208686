/-! the two sides' states side by side -/
def kR (x : PT) (g : Nat → Nat → Int32) (i k : Nat) : Prop := k ≤ 2 ∧ pAn x = nI k ∧ g 4 (i + 1) = nI k ∧ pWa x = (if k = 2 then 3 else 2) ∧ cA (pL x) = k ∧ (∀ v : Int32, ¬ v < 0 → hasE v (pL x) = bl (g 5) i v k) ∧ (k = 2 → ¬ g 5 (3 * (i + 1)) = g 5 (3 * (i + 1) + 1))
def pR (x : PT) (du : Nat → Int64) (g : Nat → Nat → Int32) (i : Nat) : Prop := pDu x = du (i + 1) ∧ pSk x = g 1 (i + 1) ∧ pEn x = g 2 (i + 1) ∧ pSw x = g 3 (i + 1) ∧ lR g i (pL x) ∧ (pEn x = 0 → pSw x = 0 ∧ ∃ k : Nat, kR x g i k)
def hR (n : Nat) (P : Nat → PT) (tu : Option Nat) (g : Nat → Nat → Int32) (j : Nat) : Prop := (tu = none ∧ ∀ i : Nat, i < n → ¬ g 6 (20 * i + j) = 2) ∨ ∃ (i q : Nat) (o : Int32), i < n ∧ tu = some q ∧ (q, nI j, o, -1) ∈ pL (P i) ∧ ∀ i' : Nat, i' < n → (g 6 (20 * i' + j) = 2 ↔ i' = i)
def sR (mo : Int32) (n : Nat) (P : Nat → PT) (K : Nat → KT) (du : Nat → Int64) (g : Nat → Nat → Int32) : Prop :=
  (∀ i : Nat, i < n → pR (P i) du g i) ∧ (∀ j : Nat, j < 20 → kIn (K j) = g 9 j ∧ kOf (K j) = g 10 j ∧ kSk (K j) = g 11 j ∧ (g 9 j = 0 ∨ g 9 j = 1)) ∧ (∀ j : Nat, j < 20 → hR n P (kTu (K j)) g j) ∧ (∀ p : Nat, n < p → p ≤ 300 → g 2 p = 0 ∧ g 3 p = 0 ∧ g 4 p = 0) ∧ (∀ i : Nat, n ≤ i → i < 300 → ∀ j : Nat, j < 20 → g 6 (20 * i + j) = 0 ∧ g 8 (20 * i + j) = -1) ∧ ∃ M : Nat, 1 ≤ M ∧ M ≤ 100 ∧ mo = nI M ∧ cW P n ≤ M
theorem k2_cases {k : Nat} (h : k ≤ 2) : k = 0 ∨ k = 1 ∨ k = 2 := by omega
section SIM
variable {x : PT} {du : Nat → Int64} {g : Nat → Nat → Int32} {i k : Nat}
theorem kR_dff (h : kR x g i k) : dff (g 4) (g 5) i ↔ k = 2 := by
  obtain ⟨h1, -, h3, -, -, -, h7⟩ := h
  constructor
  · rintro ⟨z, -⟩
    rw [h3] at z
    rcases k2_cases h1 with rfl | rfl | rfl
    · exact absurd (by decide) z
    · exact absurd (by decide) z
    · rfl
  · rintro rfl
    exact ⟨by rw [h3]; decide, h7 rfl⟩
theorem kR_wa (h : kR x g i k) : pWa x = (if dff (g 4) (g 5) i then 3 else 2) := by
  rw [h.2.2.2.1]
  by_cases hk : k = 2
  · rw [if_pos hk, if_pos ((kR_dff h).mpr hk)]
  · rw [if_neg hk, if_neg (fun z => hk ((kR_dff h).mp z))]
theorem kR_tk (h : kR x g i k) (hl : lR g i (pL x)) : nI (tk (pL x)) = g 4 (i + 1) + nI (hc (g 6) i 20) := by
  rw [lR_tk hl, h.2.2.2.2.1, h.2.2.1, nI_add]
theorem kR_tkn (h : kR x g i k) (hl : lR g i (pL x)) : nI (tk (pL x)) < pWa x ↔ ¬ tkn (g 4) (g 5) (g 6) i := by
  rw [kR_tk h hl, kR_wa h]
  exact Decidable.not_not.symm
theorem pR_state (h : pR x du g i) : stt (pEn x) (pWa x) (tk (pL x)) = mst g i := by
  obtain ⟨-, -, h3, -, hl, hk⟩ := h
  unfold stt mst
  by_cases he : pEn x = 0
  · obtain ⟨-, k, hk⟩ := hk he
    rw [if_pos he, if_pos (h3.symm.trans he)]
    by_cases ht : tkn (g 4) (g 5) (g 6) i
    · rw [if_neg (fun z => (kR_tkn hk hl).mp z ht), if_pos ht]
    · rw [if_pos ((kR_tkn hk hl).mpr ht), if_neg ht]
  · rw [if_neg he, if_neg (fun z => he (h3.trans z)), h3]
theorem pR_free (h : pR x du g i) {j : Nat} (hj : j < 20) : frP x (nI j) (g 10 j) (g 11 j) = true ↔ mfr g i j := by
  obtain ⟨-, h2, h3, -, hl, hk⟩ := h
  unfold frP fre
  by_cases he : pEn x = 0
  · obtain ⟨-, k, hk⟩ := hk he
    have hb := lR_bar hl hj (o := g 10 j) (wa := pWa x)
    have hd : ¬ pWa x = 2 ↔ dff (g 4) (g 5) i := by
      rw [kR_wa hk]
      by_cases hd : dff (g 4) (g 5) i
      · rw [if_pos hd]; exact ⟨fun _ => hd, fun _ => by decide⟩
      · rw [if_neg hd]; exact ⟨fun z => absurd rfl z, fun z => absurd z hd⟩
    rw [hd] at hb
    simp only [Bool.and_eq_true, decide_eq_true_eq, Bool.not_eq_true', decide_eq_false_iff_not]
    rw [kR_tkn hk hl, h2, ← Bool.not_eq_true, hb]
    constructor
    · rintro ⟨⟨⟨a, b⟩, c⟩, d, e⟩
      exact ⟨⟨⟨⟨h3.symm.trans a, c⟩, b⟩, d⟩, e⟩
    · rintro ⟨⟨⟨⟨a, c⟩, b⟩, d⟩, e⟩
      exact ⟨⟨⟨h3.trans a, b⟩, c⟩, d, e⟩
  · constructor
    · intro z
      simp [he] at z
    · rintro ⟨⟨⟨⟨a, -⟩, -⟩, -⟩, -⟩
      exact absurd (h3.trans a) he
end SIM
theorem cW_oW {P : Nat → PT} {du : Nat → Int64} {g : Nat → Nat → Int32} : ∀ m : Nat, (∀ i : Nat, i < m → pR (P i) du g i) → cW P m = oW (g 2) m := by
  intro m
  induction m with
  | zero => intro _; rfl
  | succ m ih =>
    intro h
    simp only [cW, oW]
    rw [ih (fun i hi => h i (by omega)), (h m (Nat.lt_succ_self m)).2.2.1]
theorem cL_mC {t : Int64} {P : Nat → PT} {du : Nat → Int64} {g : Nat → Nat → Int32} : ∀ m : Nat, (∀ i : Nat, i < m → pR (P i) du g i) → cL t P m = mC t du (g 2) m := by
  intro m
  induction m with
  | zero => intro _; rfl
  | succ m ih =>
    intro h
    simp only [cL, mC]
    rw [ih (fun i hi => h i (by omega)), (h m (Nat.lt_succ_self m)).2.2.1, (h m (Nat.lt_succ_self m)).1]
theorem cW_mono {P P' : Nat → PT} : ∀ m : Nat, (∀ i : Nat, i < m → pEn (P' i) = 0 → pEn (P i) = 0) → cW P' m ≤ cW P m := by
  intro m
  induction m with
  | zero => intro _; exact Nat.le_refl _
  | succ m ih =>
    intro h
    have h1 := ih (fun i hi => h i (by omega))
    simp only [cW]
    by_cases hz : pEn (P' m) = 0
    · rw [if_pos hz, if_pos (h m (Nat.lt_succ_self m) hz)]
      omega
    · rw [if_neg hz]
      split <;> omega
/-- the tables are alike at picture i -/
theorem tR_congr {g g' : Nat → Nat → Int32} {i j : Nat} {t : TR} (h : g' 6 (20 * i + j) = g 6 (20 * i + j) ∧ g' 7 (20 * i + j) = g 7 (20 * i + j) ∧ g' 8 (20 * i + j) = g 8 (20 * i + j)) (ht : tR g i j t) : tR g' i j t := by
  unfold tR at *
  rw [h.1, h.2.1, h.2.2]
  exact ht
theorem lR_congr {g g' : Nat → Nat → Int32} {i : Nat} {L : List TR} (h : ∀ j : Nat, j < 20 → g' 6 (20 * i + j) = g 6 (20 * i + j) ∧ g' 7 (20 * i + j) = g 7 (20 * i + j) ∧ g' 8 (20 * i + j) = g 8 (20 * i + j)) (hl : lR g i L) : lR g' i L := by
  refine ⟨hl.1, fun t ht => ?_, fun j hj hn => ?_⟩
  · obtain ⟨j, hj, hc, ht'⟩ := hl.2.1 t ht
    exact ⟨j, hj, hc, tR_congr (h j hj) ht'⟩
  · rw [(h j hj).1, (h j hj).2.2]
    exact hl.2.2 j hj hn
theorem kR_congr {x x' : PT} {g g' : Nat → Nat → Int32} {i k : Nat} (h4 : g' 4 (i + 1) = g 4 (i + 1)) (h5 : ∀ m : Nat, m < 3 → g' 5 (3 * (i + 1) + m) = g 5 (3 * (i + 1) + m)) (e1 : pAn x' = pAn x) (e2 : pWa x' = pWa x) (e3 : cA (pL x') = cA (pL x)) (e4 : ∀ v : Int32, ¬ v < 0 → hasE v (pL x') = hasE v (pL x)) (h : kR x g i k) : kR x' g' i k := by
  obtain ⟨g1, g2, g3, g4', g5', g6, g7⟩ := h
  refine ⟨g1, e1.trans g2, h4.trans g3, e2.trans g4', e3.trans g5', fun v hv => ?_, fun hk => ?_⟩
  · rw [e4 v hv, g6 v hv]
    have : ∀ m : Nat, m ≤ 2 → bl (g 5) i v m = bl (g' 5) i v m := by
      intro m
      induction m with
      | zero => intro _; rfl
      | succ m ih => intro hm; simp only [bl]; rw [ih (by omega), h5 m (by omega)]
    exact this k g1
  · have a := h5 0 (by omega)
    have b := h5 1 (by omega)
    rw [Nat.add_zero] at a
    rw [a, b]
    exact g7 hk
theorem pR_congr {x : PT} {du du' : Nat → Int64} {g g' : Nat → Nat → Int32} {i : Nat} (hd : du' (i + 1) = du (i + 1)) (hk : ∀ k : Nat, 1 ≤ k → k ≤ 4 → g' k (i + 1) = g k (i + 1)) (h5 : ∀ m : Nat, m < 3 → g' 5 (3 * (i + 1) + m) = g 5 (3 * (i + 1) + m)) (hl : ∀ j : Nat, j < 20 → g' 6 (20 * i + j) = g 6 (20 * i + j) ∧ g' 7 (20 * i + j) = g 7 (20 * i + j) ∧ g' 8 (20 * i + j) = g 8 (20 * i + j)) (h : pR x du g i) : pR x du' g' i := by
  obtain ⟨a1, a2, a3, a4, a5, a6⟩ := h
  refine ⟨a1.trans hd.symm, a2.trans (hk 1 (by omega) (by omega)).symm, a3.trans (hk 2 (by omega) (by omega)).symm, a4.trans (hk 3 (by omega) (by omega)).symm, lR_congr hl a5, fun z => ?_⟩
  obtain ⟨b1, k, b2⟩ := a6 z
  exact ⟨b1, k, kR_congr (hk 4 (by omega) (by omega)) h5 rfl rfl rfl (fun _ _ => rfl) b2⟩
/-- time passes on both sides -/
theorem sR_pass {mo : Int32} {n : Nat} {P : Nat → PT} {K : Nat → KT} {du : Nat → Int64} {g : Nat → Nat → Int32} (t : Int64) (h : sR mo n P K du g) : sR mo n (pst t P n) K du (pG g t du n) := by
  obtain ⟨h1, h2, h3, h4, h5, M, h6, h7, h8, h9⟩ := h
  have e : ∀ k : Nat, k ≠ 2 → pG g t du n k = g k := fun k hk => vu_ne hk
  have e2 : pG g t du n 2 = mE t du (g 2) n := vu_same
  have hpl : ∀ i : Nat, pL (pst t P n i) = pL (P i) := fun i => by
    unfold pst
    split <;> rfl
  refine ⟨fun i hi => ?_, fun j hj => ?_, fun j hj => ?_, fun p hp1 hp2 => ?_, fun i hi1 hi2 j hj => ?_, M, h6, h7, h8, Nat.le_trans (cW_mono n (fun i hi z => ?_)) h9⟩
  · obtain ⟨a1, a2, a3, a4, a5, a6⟩ := h1 i hi
    by_cases hc : pEn (P i) = 0 ∧ pDu (P i) < t
    · have ep : pst t P n i = sLate (P i) := if_pos ⟨hi, hc⟩
      have eg : pG g t du n 2 (i + 1) = 4 := by
        rw [e2]
        exact if_pos ⟨⟨by omega, by omega⟩, by rw [← a3, ← a1]; exact hc⟩
      rw [ep]
      refine ⟨a1, by rw [e 1 (by decide)]; exact a2, by rw [eg]; rfl, by rw [e 3 (by decide)]; exact a4, lR_congr (fun j hj => ?_) a5, fun z => ?_⟩
      · rw [e 6 (by decide), e 7 (by decide), e 8 (by decide)]
        exact ⟨rfl, rfl, rfl⟩
      · exact absurd z (by show ¬ (4 : Int32) = 0; decide)
    · have ep : pst t P n i = P i := if_neg (fun z => hc z.2)
      have eg : pG g t du n 2 (i + 1) = g 2 (i + 1) := by
        rw [e2]
        exact if_neg (fun z => hc (by rw [a3, a1]; exact z.2))
      rw [ep]
      refine pR_congr rfl (fun k hk1 hk2 => ?_) (fun m hm => by rw [e 5 (by decide)]) (fun j hj => by rw [e 6 (by decide), e 7 (by decide), e 8 (by decide)]; exact ⟨rfl, rfl, rfl⟩) (h1 i hi)
      by_cases hk : k = 2
      · subst hk; exact eg
      · rw [e k hk]
  · rw [e 9 (by decide), e 10 (by decide), e 11 (by decide)]
    exact h2 j hj
  · rcases h3 j hj with ⟨b1, b2⟩ | ⟨i, q, o, b1, b2, b3, b4⟩
    · exact Or.inl ⟨b1, fun i hi => by rw [e 6 (by decide)]; exact b2 i hi⟩
    · exact Or.inr ⟨i, q, o, b1, b2, by rw [hpl]; exact b3, fun i' hi' => by rw [e 6 (by decide)]; exact b4 i' hi'⟩
  · rw [e2, e 3 (by decide), e 4 (by decide), mE_gt hp1]
    exact h4 p hp1 hp2
  · rw [e 6 (by decide), e 8 (by decide)]
    exact h5 i hi1 hi2 j hj
  · unfold pst at z
    by_cases hc : i < n ∧ (pEn (P i) = 0 ∧ pDu (P i) < t)
    · exact hc.2.1
    · rw [if_neg hc] at z
      exact z
