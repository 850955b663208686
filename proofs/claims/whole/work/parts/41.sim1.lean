/-! the two sides' states side by side: lemmas on chains and tables -/
def tR (g : Nat → Nat → Int32) (i j : Nat) (t : TR) : Prop := g 7 (20 * i + j) = t.2.2.1 ∧ ((t.2.2.2 = -1 ∧ g 6 (20 * i + j) = 2 ∧ g 8 (20 * i + j) = -1) ∨ (t.2.2.2 = -2 ∧ g 6 (20 * i + j) = 1 ∧ g 8 (20 * i + j) = -1) ∨ (¬ t.2.2.2 < 0 ∧ g 6 (20 * i + j) = 3 ∧ g 8 (20 * i + j) = t.2.2.2))
def lR (g : Nat → Nat → Int32) (i : Nat) (L : List TR) : Prop := L.Pairwise (fun s t => s.2.1 ≠ t.2.1) ∧ (∀ t ∈ L, ∃ j : Nat, j < 20 ∧ t.2.1 = nI j ∧ tR g i j t) ∧ ∀ j : Nat, j < 20 → (∀ t ∈ L, t.2.1 ≠ nI j) → g 6 (20 * i + j) = 0 ∧ g 8 (20 * i + j) = -1
def cA : List TR → Nat
  | [] => 0
  | t :: L => if t.2.2.2 < 0 then cA L else cA L + 1
def cH : List TR → Nat
  | [] => 0
  | t :: L => if t.2.2.2 = -1 then cH L + 1 else cH L
def fO (ck : Int32) : List TR → Option Int32
  | [] => none
  | t :: L => if t.2.1 = ck then some t.2.2.2 else fO ck L
def cJ (L : List TR) : Nat → Nat
  | 0 => 0
  | m + 1 => if fO (nI m) L = some (-1) then cJ L m + 1 else cJ L m
theorem tk_sum : ∀ (L : List TR), (∀ t ∈ L, t.2.2.2 = -1 ∨ t.2.2.2 = -2 ∨ ¬ t.2.2.2 < 0) → tk L = cA L + cH L := by
  intro L
  induction L with
  | nil => intro _; rfl
  | cons t L ih =>
    intro h
    have h1 := ih (fun s hs => h s (List.mem_cons_of_mem _ hs))
    have h2 := h t List.mem_cons_self
    rcases h2 with e | e | e
    · show (if t.2.2.2 = -2 then tk L else tk L + 1) = (if t.2.2.2 < 0 then cA L else cA L + 1) + (if t.2.2.2 = -1 then cH L + 1 else cH L)
      rw [if_neg (by rw [e]; decide), if_pos (by rw [e]; decide), if_pos e, h1]
      omega
    · show (if t.2.2.2 = -2 then tk L else tk L + 1) = (if t.2.2.2 < 0 then cA L else cA L + 1) + (if t.2.2.2 = -1 then cH L + 1 else cH L)
      rw [if_pos e, if_pos (by rw [e]; decide), if_neg (by rw [e]; decide), h1]
    · have e1 : ¬ t.2.2.2 = -2 := fun z => e (by rw [z]; decide)
      have e2 : ¬ t.2.2.2 = -1 := fun z => e (by rw [z]; decide)
      simp only [tk, cA, cH]
      rw [if_neg e1, if_neg e, if_neg e2, h1]
      omega
theorem fO_none {ck : Int32} : ∀ (L : List TR), (∀ t ∈ L, t.2.1 ≠ ck) → fO ck L = none := by
  intro L
  induction L with
  | nil => intro _; rfl
  | cons t L ih =>
    intro h
    simp only [fO]
    rw [if_neg (h t List.mem_cons_self)]
    exact ih (fun s hs => h s (List.mem_cons_of_mem _ hs))
theorem fO_mem {ck e : Int32} : ∀ (L : List TR), fO ck L = some e → ∃ t ∈ L, t.2.1 = ck ∧ t.2.2.2 = e := by
  intro L
  induction L with
  | nil => intro h; cases h
  | cons t L ih =>
    intro h
    simp only [fO] at h
    by_cases hc : t.2.1 = ck
    · rw [if_pos hc] at h
      exact ⟨t, List.mem_cons_self, hc, Option.some.inj h⟩
    · rw [if_neg hc] at h
      obtain ⟨s, hs, h1, h2⟩ := ih h
      exact ⟨s, List.mem_cons_of_mem _ hs, h1, h2⟩
theorem fO_of {ck : Int32} : ∀ (L : List TR), L.Pairwise (fun s t => s.2.1 ≠ t.2.1) → ∀ t ∈ L, t.2.1 = ck → fO ck L = some t.2.2.2 := by
  intro L
  induction L with
  | nil => intro _ t ht; cases ht
  | cons s L ih =>
    intro hp t ht hc
    rw [List.pairwise_cons] at hp
    simp only [fO]
    rcases List.mem_cons.mp ht with rfl | ht
    · rw [if_pos hc]
    · rw [if_neg (fun z => hp.1 t ht (z.trans hc.symm))]
      exact ih hp.2 t ht hc
theorem cJ_cons {t : TR} {L : List TR} {j0 : Nat} (hj0 : j0 < 20) (hc : t.2.1 = nI j0) (hn : ∀ s ∈ L, s.2.1 ≠ nI j0) : ∀ m : Nat, m ≤ 20 → cJ (t :: L) m = cJ L m + (if t.2.2.2 = -1 ∧ j0 < m then 1 else 0) := by
  intro m
  induction m with
  | zero => intro _; simp [cJ]
  | succ m ih =>
    intro hm
    have h1 := ih (by omega)
    by_cases hmj : m = j0
    · subst hmj
      have hfL : fO (nI m) L = none := fO_none L hn
      have hf : fO (nI m) (t :: L) = some t.2.2.2 := by simp only [fO]; rw [if_pos hc]
      simp only [cJ, hfL, hf, h1]
      by_cases he : t.2.2.2 = -1
      · simp [he]
      · simp [he]
    · have hne : ¬ t.2.1 = nI m := fun z => by
        rw [hc, nI_eq (by omega) (by omega)] at z
        omega
      have hf : fO (nI m) (t :: L) = fO (nI m) L := by simp only [fO]; rw [if_neg hne]
      simp only [cJ, hf, h1]
      by_cases hx : fO (nI m) L = some (-1)
      · rw [if_pos hx, if_pos hx]
        by_cases he : t.2.2.2 = -1 ∧ j0 < m
        · rw [if_pos he, if_pos ⟨he.1, by omega⟩]
        · rw [if_neg he, if_neg (fun z => he ⟨z.1, by omega⟩)]
      · rw [if_neg hx, if_neg hx]
        by_cases he : t.2.2.2 = -1 ∧ j0 < m
        · rw [if_pos he, if_pos ⟨he.1, by omega⟩]
        · rw [if_neg he, if_neg (fun z => he ⟨z.1, by omega⟩)]
theorem cJ_cH : ∀ (L : List TR), L.Pairwise (fun s t => s.2.1 ≠ t.2.1) → (∀ t ∈ L, ∃ j : Nat, j < 20 ∧ t.2.1 = nI j) → cJ L 20 = cH L := by
  intro L
  induction L with
  | nil =>
    intro _ _
    have : ∀ m, cJ [] m = 0 := by
      intro m
      induction m with
      | zero => rfl
      | succ m ih => simp [cJ, fO, ih]
    rw [this]
    rfl
  | cons t L ih =>
    intro hp hj
    rw [List.pairwise_cons] at hp
    obtain ⟨j0, hj0, hc⟩ := hj t List.mem_cons_self
    rw [cJ_cons hj0 hc (fun s hs z => hp.1 s hs (hc.trans z.symm)) 20 (Nat.le_refl _), ih hp.2 (fun s hs => hj s (List.mem_cons_of_mem _ hs))]
    simp only [cH]
    by_cases he : t.2.2.2 = -1
    · rw [if_pos ⟨he, hj0⟩, if_pos he]
    · rw [if_neg (fun z => he z.1), if_neg he]
      rfl
section LR
variable {g : Nat → Nat → Int32} {i : Nat} {L : List TR}
theorem lR_at (h : lR g i L) {j : Nat} (hj : j < 20) {t : TR} (ht : t ∈ L) (hc : t.2.1 = nI j) : tR g i j t := by
  obtain ⟨j', hj', hc', ht'⟩ := h.2.1 t ht
  have : j' = j := by
    have e := hc'.symm.trans hc
    rw [nI_eq (by omega) (by omega)] at e
    exact e
  subst this
  exact ht'
theorem lR_ex (h : lR g i L) {j : Nat} (hj : j < 20) (hd : ¬ g 6 (20 * i + j) = 0) : ∃ t ∈ L, t.2.1 = nI j := by
  by_cases hx : ∃ t ∈ L, t.2.1 = nI j
  · exact hx
  · exact absurd (h.2.2 j hj (fun t ht z => hx ⟨t, ht, z⟩)).1 hd
theorem lR_fO (h : lR g i L) {j : Nat} (hj : j < 20) : (fO (nI j) L = some (-1)) ↔ g 6 (20 * i + j) = 2 := by
  constructor
  · intro hf
    obtain ⟨t, ht, hc, he⟩ := fO_mem L hf
    rcases (lR_at h hj ht hc).2 with z | z | z
    · exact z.2.1
    · rw [he] at z; exact absurd z.1 (by decide)
    · rw [he] at z; exact absurd (by decide) z.1
  · intro hg
    obtain ⟨t, ht, hc⟩ := lR_ex h hj (by rw [hg]; decide)
    rw [fO_of L h.1 t ht hc]
    rcases (lR_at h hj ht hc).2 with z | z | z
    · rw [z.1]
    · rw [hg] at z; exact absurd z.2.1 (by decide)
    · rw [hg] at z; exact absurd z.2.1 (by decide)
theorem lR_hc (h : lR g i L) : hc (g 6) i 20 = cH L := by
  have key : ∀ m : Nat, m ≤ 20 → hc (g 6) i m = cJ L m := by
    intro m
    induction m with
    | zero => intro _; rfl
    | succ m ih =>
      intro hm
      simp only [hc, cJ]
      rw [ih (by omega)]
      by_cases hx : g 6 (20 * i + m) = 2
      · rw [if_pos hx, if_pos ((lR_fO h (by omega)).mpr hx)]
      · rw [if_neg hx, if_neg (fun z => hx ((lR_fO h (by omega)).mp z))]
  rw [key 20 (Nat.le_refl _)]
  exact cJ_cH L h.1 (fun t ht => by obtain ⟨j, hj, hc, -⟩ := h.2.1 t ht; exact ⟨j, hj, hc⟩)
theorem lR_tk (h : lR g i L) : tk L = cA L + hc (g 6) i 20 := by
  rw [lR_hc h]
  exact tk_sum L (fun t ht => by
    obtain ⟨j, -, -, -, z | z | z⟩ := h.2.1 t ht
    · exact Or.inl z.1
    · exact Or.inr (Or.inl z.1)
    · exact Or.inr (Or.inr z.1))
theorem bar_iff {no o wa : Int32} : ∀ (L : List TR), bar no o wa L = true ↔ ∃ t ∈ L, t.2.1 = no ∨ ((t.2.2.1 = o ∧ ¬ t.2.2.2 = -2) ∧ wa = 2) := by
  intro L
  induction L with
  | nil => simp [bar]
  | cons t L ih =>
    simp only [bar, Bool.or_eq_true, Bool.and_eq_true, decide_eq_true_eq, Bool.not_eq_true', decide_eq_false_iff_not, List.mem_cons, exists_eq_or_imp, ih]
theorem aln_iff {d w : Nat → Int32} {o : Int32} {i : Nat} : ∀ m : Nat, aln d w o i m = true ↔ ∀ j : Nat, j < m → ¬ (¬ d (20 * i + j) ≤ 1 ∧ w (20 * i + j) = o) := by
  intro m
  induction m with
  | zero => simp [aln]
  | succ m ih =>
    simp only [aln, Bool.and_eq_true, ih, Bool.not_eq_true', Bool.and_eq_false_iff, Bool.not_eq_false', decide_eq_true_eq, decide_eq_false_iff_not]
    constructor
    · rintro ⟨h1, h2⟩ j hj ⟨z1, z2⟩
      by_cases hjm : j = m
      · subst hjm
        rcases h2 with h2 | h2
        · exact z1 h2
        · exact h2 z2
      · exact h1 j (by omega) ⟨z1, z2⟩
    · intro h
      refine ⟨fun j hj => h j (by omega), ?_⟩
      by_cases z1 : d (20 * i + m) ≤ 1
      · exact Or.inl z1
      · exact Or.inr (fun z2 => h m (by omega) ⟨z1, z2⟩)
theorem lR_bar (h : lR g i L) {j : Nat} (hj : j < 20) {o wa : Int32} : (¬ bar (nI j) o wa L = true) ↔ (g 6 (20 * i + j) = 0 ∧ (aln (g 6) (g 7) o i 20 = true ∨ ¬ wa = 2)) := by
  rw [bar_iff]
  constructor
  · intro hb
    refine ⟨?_, ?_⟩
    · by_cases hd : g 6 (20 * i + j) = 0
      · exact hd
      · obtain ⟨t, ht, hc⟩ := lR_ex h hj hd
        exact absurd ⟨t, ht, Or.inl hc⟩ hb
    · by_cases hw : wa = 2
      · refine Or.inl ((aln_iff 20).mpr (fun m hm z => ?_))
        obtain ⟨t, ht, hc⟩ := lR_ex h hm (fun q => z.1 (by rw [q]; decide))
        have ht' := lR_at h hm ht hc
        refine hb ⟨t, ht, Or.inr ⟨⟨ht'.1.symm.trans z.2, fun e => ?_⟩, hw⟩⟩
        rcases ht'.2 with y | y | y
        · rw [e] at y; exact absurd y.1 (by decide)
        · exact z.1 (by rw [y.2.1]; decide)
        · rw [e] at y; exact absurd (by decide) y.1
      · exact Or.inr hw
  · rintro ⟨hd, ha⟩ ⟨t, ht, hx⟩
    obtain ⟨j', hj', hc', ht'⟩ := h.2.1 t ht
    rcases hx with hx | ⟨⟨ho, he⟩, hw⟩
    · have hz := lR_at h hj ht hx
      rcases hz.2 with y | y | y <;> rw [hd] at y <;> exact absurd y.2.1 (by decide)
    · rcases ha with ha | ha
      · refine (aln_iff 20).mp ha j' hj' ⟨fun q => ?_, ht'.1.trans ho⟩
        rcases ht'.2 with y | y | y
        · rw [y.2.1] at q; exact absurd q (by decide)
        · exact he y.1
        · rw [y.2.1] at q; exact absurd q (by decide)
      · exact ha hw
theorem fndE_fO {ck : Int32} : ∀ (L : List TR), fndE ck L = (fO ck L).getD (-1) := by
  intro L
  induction L with
  | nil => rfl
  | cons t L ih =>
    simp only [fndE, fO]
    by_cases h : t.2.1 = ck
    · rw [if_pos h, if_pos h]; rfl
    · rw [if_neg h, if_neg h, ih]
/-- what a clerk said, on both sides -/
theorem lR_said (h : lR g i L) {j : Nat} (hj : j < 20) : (fndE (nI j) L < 0 ∧ g 8 (20 * i + j) < 0) ∨ (¬ fndE (nI j) L < 0 ∧ g 8 (20 * i + j) = fndE (nI j) L) := by
  rw [fndE_fO]
  by_cases hx : ∃ t ∈ L, t.2.1 = nI j
  · obtain ⟨t, ht, hc⟩ := hx
    rw [fO_of L h.1 t ht hc]
    show (t.2.2.2 < 0 ∧ _) ∨ (¬ t.2.2.2 < 0 ∧ _ = t.2.2.2)
    rcases (lR_at h hj ht hc).2 with y | y | y
    · exact Or.inl ⟨by rw [y.1]; decide, by rw [y.2.2]; decide⟩
    · exact Or.inl ⟨by rw [y.1]; decide, by rw [y.2.2]; decide⟩
    · exact Or.inr ⟨y.1, y.2.2⟩
  · rw [fO_none L (fun t ht z => hx ⟨t, ht, z⟩)]
    exact Or.inl ⟨by decide, by rw [(h.2.2 j hj (fun t ht z => hx ⟨t, ht, z⟩)).2]; decide⟩
end LR
/-! the best free picture: from the first up, and from the last down -/
def isB (F : Nat → Bool) (d : Nat → Int64) (lo hi b : Nat) : Prop := lo ≤ b ∧ b < hi ∧ F b = true ∧ ∀ i : Nat, lo ≤ i → i < hi → F i = true → (i < b → d b < d i) ∧ ¬ d i < d b
theorem isB_eq {F : Nat → Bool} {d : Nat → Int64} {lo hi b b' : Nat} (h : isB F d lo hi b) (h' : isB F d lo hi b') : b = b' := by
  obtain ⟨h1, h2, h3, h4⟩ := h
  obtain ⟨g1, g2, g3, g4⟩ := h'
  rcases Nat.lt_trichotomy b b' with q | q | q
  · exact absurd ((g4 b h1 h2 h3).1 q) (h4 b' g1 g2 g3).2
  · exact q
  · exact absurd ((h4 b' g1 g2 g3).1 q) (g4 b h1 h2 h3).2
theorem l64_trans {x y z : Int64} (h1 : x < y) (h2 : y < z) : x < z := by
  rw [Int64.lt_iff_toInt_lt] at *; omega
theorem l64_nlt {x y z : Int64} (h1 : ¬ x < y) (h2 : x < z) : y < z := by
  rw [Int64.lt_iff_toInt_lt] at *; omega
theorem l64_nn {x y z : Int64} (h1 : ¬ x < y) (h2 : ¬ y < z) : ¬ x < z := by
  rw [Int64.lt_iff_toInt_lt] at *; omega
theorem l64_as {x y : Int64} (h1 : x < y) : ¬ y < x := by
  rw [Int64.lt_iff_toInt_lt] at *; omega
theorem l64_ir {x : Int64} : ¬ x < x := by
  rw [Int64.lt_iff_toInt_lt]; omega
theorem gvn_spec {P : Nat → PT} {no o ks : Int32} : ∀ n : Nat, (gvn P no o ks n = none → ∀ i : Nat, i < n → ¬ frP (P i) no o ks = true) ∧ (∀ b : Nat, gvn P no o ks n = some b → isB (fun i => frP (P i) no o ks) (fun i => pDu (P i)) 0 n b) := by
  intro n
  induction n with
  | zero => exact ⟨fun _ i hi => absurd hi (Nat.not_lt_zero i), fun b h => by cases h⟩
  | succ n ih =>
    rcases hg : gvn P no o ks n with _ | b0
    · have hn := ih.1 hg
      by_cases hf : frP (P n) no o ks = true
      · have e : gvn P no o ks (n + 1) = some n := (gv_nt hg.symm hf).symm
        rw [e]
        refine ⟨fun z => (by cases z), fun b hb => ?_⟩
        cases hb
        refine ⟨Nat.zero_le _, Nat.lt_succ_self n, hf, fun i _ hi hFi => ?_⟩
        by_cases hin : i = n
        · subst hin; exact ⟨fun z => absurd z (Nat.lt_irrefl _), l64_ir⟩
        · exact absurd hFi (hn i (by omega))
      · have e : gvn P no o ks (n + 1) = none := (gv_nf hg.symm hf).symm
        rw [e]
        refine ⟨fun _ i hi => ?_, fun b hb => by cases hb⟩
        by_cases hin : i = n
        · subst hin; exact hf
        · exact hn i (by omega)
    · obtain ⟨g1, g2, g3, g4⟩ := ih.2 b0 hg
      by_cases hd : pDu (P n) < pDu (P b0)
      · by_cases hf : frP (P n) no o ks = true
        · have e : gvn P no o ks (n + 1) = some n := (gv_st hg.symm hd hf).symm
          rw [e]
          refine ⟨fun z => (by cases z), fun b hb => ?_⟩
          cases hb
          refine ⟨Nat.zero_le _, Nat.lt_succ_self n, hf, fun i _ hi hFi => ?_⟩
          by_cases hin : i = n
          · subst hin; exact ⟨fun z => absurd z (Nat.lt_irrefl _), l64_ir⟩
          · have h5 : pDu (P n) < pDu (P i) := by
              have h6 : ¬ pDu (P i) < pDu (P b0) := (g4 i (Nat.zero_le _) (by omega) hFi).2
              rw [Int64.lt_iff_toInt_lt] at *; omega
            exact ⟨fun _ => h5, l64_as h5⟩
        · have e : gvn P no o ks (n + 1) = some b0 := (gv_sf hg.symm hf).symm
          rw [e]
          refine ⟨fun z => (by cases z), fun b hb => ?_⟩
          cases hb
          refine ⟨g1, by omega, g3, fun i hlo hi hFi => ?_⟩
          by_cases hin : i = n
          · subst hin; exact absurd hFi hf
          · exact g4 i hlo (by omega) hFi
      · have e : gvn P no o ks (n + 1) = some b0 := (gv_sd hg.symm hd).symm
        rw [e]
        refine ⟨fun z => (by cases z), fun b hb => ?_⟩
        cases hb
        refine ⟨g1, by omega, g3, fun i hlo hi hFi => ?_⟩
        by_cases hin : i = n
        · subst hin; exact ⟨fun z => absurd z (by omega), hd⟩
        · exact g4 i hlo (by omega) hFi
theorem mbs_spec {du : Nat → Int64} {F : Nat → Bool} {n : Nat} : ∀ d : Nat, d ≤ n → (mbs du F n d = 0 → ∀ i : Nat, n - d ≤ i → i < n → ¬ F i = true) ∧ (∀ b : Nat, mbs du F n d = b + 1 → isB F (fun i => du (i + 1)) (n - d) n b) := by
  intro d
  induction d with
  | zero => intro _; exact ⟨fun _ i h1 h2 => by omega, fun b h => by cases h⟩
  | succ d ih =>
    intro hd
    have ih := ih (by omega)
    have e1 : n - d - 1 + 1 = n - d := by omega
    by_cases hc : F (n - d - 1) = true ∧ (mbs du F n d = 0 ∨ ¬ du (mbs du F n d) < du (n - d))
    · have e : mbs du F n (d + 1) = n - d := if_pos hc
      rw [e]
      refine ⟨fun z => by omega, fun b hb => ?_⟩
      have hb' : b = n - d - 1 := by omega
      subst hb'
      refine ⟨by omega, by omega, hc.1, fun i hlo hi hFi => ?_⟩
      by_cases hin : i = n - d - 1
      · subst hin; exact ⟨fun z => absurd z (Nat.lt_irrefl _), l64_ir⟩
      · refine ⟨fun z => by omega, ?_⟩
        show ¬ du (i + 1) < du (n - d - 1 + 1)
        rw [e1]
        rcases hc.2 with h0 | h0
        · exact absurd hFi (ih.1 h0 i (by omega) hi)
        · obtain ⟨b0, hb0⟩ : ∃ b0, mbs du F n d = b0 + 1 := ⟨mbs du F n d - 1, by
            have : mbs du F n d ≠ 0 := fun z => by exact absurd hFi (ih.1 z i (by omega) hi)
            omega⟩
          have h6 := ((ih.2 b0 hb0).2.2.2 i (by omega) hi hFi).2
          rw [hb0] at h0
          exact l64_nn h6 h0
    · have e : mbs du F n (d + 1) = mbs du F n d := if_neg hc
      rw [e]
      refine ⟨fun z i h1 h2 => ?_, fun b hb => ?_⟩
      · by_cases hin : i = n - d - 1
        · subst hin
          exact fun hf => hc ⟨hf, Or.inl z⟩
        · exact ih.1 z i (by omega) h2
      · obtain ⟨g1, g2, g3, g4⟩ := ih.2 b hb
        refine ⟨by omega, g2, g3, fun i hlo hi hFi => ?_⟩
        by_cases hin : i = n - d - 1
        · subst hin
          have h7 : du (b + 1) < du (n - d) := by
            by_cases z : du (b + 1) < du (n - d)
            · exact z
            · exact absurd ⟨hFi, Or.inr (by rw [hb]; exact z)⟩ hc
          show (_ → du (b + 1) < du (n - d - 1 + 1)) ∧ ¬ du (n - d - 1 + 1) < du (b + 1)
          rw [e1]
          exact ⟨fun _ => h7, l64_as h7⟩
        · exact g4 i (by omega) hi hFi
/-- both find the same one -/
theorem best_same {P : Nat → PT} {no o ks : Int32} {du : Nat → Int64} {F : Nat → Bool} {n : Nat} (hF : ∀ i : Nat, i < n → (frP (P i) no o ks = true ↔ F i = true)) (hd : ∀ i : Nat, i < n → pDu (P i) = du (i + 1)) : (gvn P no o ks n = none ∧ mbs du F n n = 0) ∨ ∃ b : Nat, b < n ∧ gvn P no o ks n = some b ∧ mbs du F n n = b + 1 := by
  have hs := gvn_spec (P := P) (no := no) (o := o) (ks := ks) n
  have hm := mbs_spec (du := du) (F := F) (n := n) n (Nat.le_refl n)
  rw [Nat.sub_self] at hm
  rcases hg : gvn P no o ks n with _ | b
  · refine Or.inl ⟨rfl, ?_⟩
    by_cases hz : mbs du F n n = 0
    · exact hz
    · obtain ⟨b0, hb0⟩ : ∃ b0, mbs du F n n = b0 + 1 := ⟨mbs du F n n - 1, by omega⟩
      obtain ⟨-, g2, g3, -⟩ := hm.2 b0 hb0
      exact absurd ((hF b0 g2).mpr g3) (hs.1 hg b0 g2)
  · obtain ⟨g1, g2, g3, g4⟩ := hs.2 b hg
    refine Or.inr ⟨b, g2, rfl, ?_⟩
    by_cases hz : mbs du F n n = 0
    · exact absurd ((hF b g2).mp g3) (hm.1 hz b (Nat.zero_le _) g2)
    · obtain ⟨b0, hb0⟩ : ∃ b0, mbs du F n n = b0 + 1 := ⟨mbs du F n n - 1, by omega⟩
      have h1 : isB F (fun i => du (i + 1)) 0 n b := ⟨g1, g2, (hF b g2).mp g3, fun i hlo hi hFi => by
        have := g4 i hlo hi ((hF i hi).mpr hFi)
        show (_ → du (b + 1) < du (i + 1)) ∧ ¬ du (i + 1) < du (b + 1)
        rw [← hd i hi, ← hd b g2]
        exact this⟩
      rw [hb0, isB_eq (hm.2 b0 hb0) h1]
theorem hd_none {d : Nat → Int32} {j : Nat} : ∀ n : Nat, (∀ i : Nat, i < n → ¬ d (20 * i + j) = 2) → hd d j n = 0 := by
  intro n
  induction n with
  | zero => intro _; rfl
  | succ n ih =>
    intro h
    simp only [hd]
    rw [if_neg (h n (Nat.lt_succ_self n))]
    exact ih (fun i hi => h i (by omega))
theorem hd_some {d : Nat → Int32} {j i : Nat} : ∀ n : Nat, i < n → (∀ i' : Nat, i' < n → (d (20 * i' + j) = 2 ↔ i' = i)) → hd d j n = i + 1 := by
  intro n
  induction n with
  | zero => intro h; omega
  | succ n ih =>
    intro hi h
    simp only [hd]
    by_cases hn : n = i
    · subst hn
      rw [if_pos ((h n hi).mpr rfl)]
    · rw [if_neg (fun z => hn ((h n (Nat.lt_succ_self n)).mp z))]
      exact ih (by omega) (fun i' hi' => h i' (by omega))
