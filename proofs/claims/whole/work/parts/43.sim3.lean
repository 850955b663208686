/-! calls on both sides: the states stay side by side -/
theorem pw_eq {L : List TR} (hp : L.Pairwise (fun s t => s.2.1 ≠ t.2.1)) : ∀ {s t : TR}, s ∈ L → t ∈ L → s.2.1 = t.2.1 → s = t := by
  induction L with
  | nil => intro s t hs; cases hs
  | cons a L ih =>
    intro s t hs ht e
    rw [List.pairwise_cons] at hp
    rcases List.mem_cons.mp hs with hs1 | hs1
    · rcases List.mem_cons.mp ht with ht1 | ht1
      · rw [hs1, ht1]
      · rw [hs1] at e
        exact absurd e (hp.1 t ht1)
    · rcases List.mem_cons.mp ht with ht1 | ht1
      · rw [ht1] at e
        exact absurd e.symm (hp.1 s hs1)
      · exact ih hp.2 hs1 ht1 e
theorem sE_mem {q : Nat} {x : Int32} {L : List TR} {s' : TR} : s' ∈ sE q x L ↔ ∃ s ∈ L, (if s.1 = q then (s.1, s.2.1, s.2.2.1, x) else s) = s' := List.mem_map
theorem sE_ck {q : Nat} {x : Int32} {s : TR} : (if s.1 = q then (s.1, s.2.1, s.2.2.1, x) else s : TR).2.1 = s.2.1 := by
  split <;> rfl
theorem sE_id {q : Nat} {x : Int32} : ∀ (L : List TR), (∀ s ∈ L, s.1 ≠ q) → sE q x L = L := by
  intro L
  induction L with
  | nil => intro _; rfl
  | cons s L ih =>
    intro h
    show (if s.1 = q then (s.1, s.2.1, s.2.2.1, x) else s) :: sE q x L = s :: L
    rw [if_neg (h s List.mem_cons_self), ih (fun r hr => h r (List.mem_cons_of_mem _ hr))]
theorem sE_cnt {q j : Nat} {o x : Int32} : ∀ (L : List TR), L.Pairwise (fun s t => s.2.1 ≠ t.2.1) → (q, nI j, o, -1) ∈ L → (∀ s ∈ L, s.1 = q → s.2.1 = nI j) → cA (sE q x L) = cA L + (if x < 0 then 0 else 1) ∧ ∀ v : Int32, ¬ v < 0 → hasE v (sE q x L) = (decide (x = v) || hasE v L) := by
  intro L
  induction L with
  | nil => intro _ h; cases h
  | cons s L ih =>
    intro hp hm hq
    have hp' := List.pairwise_cons.mp hp
    by_cases hs : s.1 = q
    · have hck : s.2.1 = nI j := hq s List.mem_cons_self hs
      have hs0 : s = (q, nI j, o, -1) := pw_eq hp List.mem_cons_self hm hck
      have hid : sE q x L = L := sE_id L (fun r hr z => hp'.1 r hr (hck.trans (hq r (List.mem_cons_of_mem _ hr) z).symm))
      have e : sE q x (s :: L) = (s.1, s.2.1, s.2.2.1, x) :: L := by
        show (if s.1 = q then (s.1, s.2.1, s.2.2.1, x) else s) :: sE q x L = _
        rw [if_pos hs, hid]
      rw [e]
      have hse : s.2.2.2 = -1 := by rw [hs0]
      refine ⟨?_, fun v hv => ?_⟩
      · show (if x < 0 then cA L else cA L + 1) = (if s.2.2.2 < 0 then cA L else cA L + 1) + _
        have h0 : s.2.2.2 < 0 := by rw [hse]; decide
        rw [if_pos h0]
        by_cases hx : x < 0
        · rw [if_pos hx, if_pos hx]; rfl
        · rw [if_neg hx, if_neg hx]
      · show (decide (x = v) || hasE v L) = (decide (x = v) || (decide (s.2.2.2 = v) || hasE v L))
        rw [hse, show decide ((-1 : Int32) = v) = false from decide_eq_false (fun z => hv (by rw [← z]; decide))]
        rfl
    · have hm' : (q, nI j, o, -1) ∈ L := by
        rcases List.mem_cons.mp hm with z | z
        · exact absurd (by rw [← z]) hs
        · exact z
      obtain ⟨i1, i2⟩ := ih hp'.2 hm' (fun r hr => hq r (List.mem_cons_of_mem _ hr))
      have e : sE q x (s :: L) = s :: sE q x L := by
        show (if s.1 = q then (s.1, s.2.1, s.2.2.1, x) else s) :: sE q x L = _
        rw [if_neg hs]
      rw [e]
      refine ⟨?_, fun v hv => ?_⟩
      · show (if s.2.2.2 < 0 then cA (sE q x L) else cA (sE q x L) + 1) = (if s.2.2.2 < 0 then cA L else cA L + 1) + _
        rw [i1]
        by_cases h0 : s.2.2.2 < 0
        · rw [if_pos h0, if_pos h0]
        · rw [if_neg h0, if_neg h0]; omega
      · show (decide (s.2.2.2 = v) || hasE v (sE q x L)) = (decide (x = v) || (decide (s.2.2.2 = v) || hasE v L))
        rw [i2 v hv]
        cases decide (s.2.2.2 = v) <;> cases decide (x = v) <;> simp
theorem lR_sE {g g' : Nat → Nat → Int32} {i j q : Nat} {o e0 x : Int32} {L : List TR} (h : lR g i L) (hm : (q, nI j, o, e0) ∈ L) (hq : ∀ s ∈ L, s.1 = q → s.2.1 = nI j) (hg : ∀ j' : Nat, j' < 20 → j' ≠ j → g' 6 (20 * i + j') = g 6 (20 * i + j') ∧ g' 7 (20 * i + j') = g 7 (20 * i + j') ∧ g' 8 (20 * i + j') = g 8 (20 * i + j')) (hj : j < 20) (ht : tR g' i j (q, nI j, o, x)) : lR g' i (sE q x L) := by
  refine ⟨?_, fun s' hs' => ?_, fun j' hj' hn => ?_⟩
  · unfold sE
    rw [List.pairwise_map]
    exact h.1.imp (fun {a b} hab => by rw [sE_ck, sE_ck]; exact hab)
  · obtain ⟨s, hs, rfl⟩ := sE_mem.mp hs'
    by_cases hsq : s.1 = q
    · have hs0 : s = (q, nI j, o, e0) := pw_eq h.1 hs hm (hq s hs hsq)
      rw [if_pos hsq]
      refine ⟨j, hj, hq s hs hsq, ?_⟩
      rw [hs0]
      exact ht
    · rw [if_neg hsq]
      obtain ⟨j', hj', hc, hts⟩ := h.2.1 s hs
      have hne : j' ≠ j := fun z => by
        subst z
        have hs0 : s = (q, nI j', o, e0) := pw_eq h.1 hs hm hc
        exact hsq (by rw [hs0])
      exact ⟨j', hj', hc, tR_congr (hg j' hj' hne) hts⟩
  · have hn' : ∀ s ∈ L, s.2.1 ≠ nI j' := fun s hs z => hn _ (sE_mem.mpr ⟨s, hs, rfl⟩) (by rw [sE_ck]; exact z)
    have hne : j' ≠ j := fun z => hn' _ hm (by rw [z])
    rw [(hg j' hj' hne).1, (hg j' hj' hne).2.2]
    exact h.2.2 j' hj' hn'
/-- the tables of the clerks alone -/
theorem sR_K {mo : Int32} {n : Nat} {P : Nat → PT} {K K' : Nat → KT} {du : Nat → Int64} {g g' : Nat → Nat → Int32} (h : sR mo n P K du g) (hg : ∀ k : Nat, k ≤ 8 → g' k = g k) (hk : ∀ j : Nat, j < 20 → kIn (K' j) = g' 9 j ∧ kOf (K' j) = g' 10 j ∧ kSk (K' j) = g' 11 j ∧ (g' 9 j = 0 ∨ g' 9 j = 1)) (ht : ∀ j : Nat, j < 20 → kTu (K' j) = kTu (K j)) : sR mo n P K' du g' := by
  obtain ⟨h1, h2, h3, h4, h5, h6⟩ := h
  refine ⟨fun i hi => pR_congr rfl (fun k _ hk2 => by rw [hg k (by omega)]) (fun m _ => by rw [hg 5 (by omega)]) (fun j _ => by rw [hg 6 (by omega), hg 7 (by omega), hg 8 (by omega)]; exact ⟨rfl, rfl, rfl⟩) (h1 i hi), hk, fun j hj => ?_, fun p hp1 hp2 => by rw [hg 2 (by omega), hg 3 (by omega), hg 4 (by omega)]; exact h4 p hp1 hp2, fun i hi1 hi2 j hj => by rw [hg 6 (by omega), hg 8 (by omega)]; exact h5 i hi1 hi2 j hj, h6⟩
  rw [ht j hj]
  unfold hR
  rw [hg 6 (by omega)]
  exact h3 j hj
/-- one picture and one clerk -/
theorem sR_one {mo : Int32} {n : Nat} {P : Nat → PT} {K K' : Nat → KT} {du : Nat → Int64} {g g' : Nat → Nat → Int32} {i0 j0 : Nat} {x' : PT} (h : sR mo n P K du g) (hi0 : i0 < n)
    (Ha : ∀ i : Nat, i ≠ i0 → ∀ j : Nat, j < 20 → g' 6 (20 * i + j) = g 6 (20 * i + j) ∧ g' 7 (20 * i + j) = g 7 (20 * i + j) ∧ g' 8 (20 * i + j) = g 8 (20 * i + j))
    (Hb : ∀ j : Nat, j < 20 → j ≠ j0 → g' 6 (20 * i0 + j) = g 6 (20 * i0 + j))
    (Hc : ∀ i : Nat, i ≠ i0 → ∀ k : Nat, 1 ≤ k → k ≤ 4 → g' k (i + 1) = g k (i + 1))
    (Hc5 : ∀ i : Nat, i ≠ i0 → ∀ m : Nat, m < 3 → g' 5 (3 * (i + 1) + m) = g 5 (3 * (i + 1) + m))
    (Hd : ∀ j : Nat, j < 20 → kIn (K' j) = g' 9 j ∧ kOf (K' j) = g' 10 j ∧ kSk (K' j) = g' 11 j ∧ (g' 9 j = 0 ∨ g' 9 j = 1))
    (He : pR x' du g' i0)
    (Hf : ∀ j : Nat, j < 20 → j ≠ j0 → ∀ (q : Nat) (o : Int32), (q, nI j, o, -1) ∈ pL (P i0) → (q, nI j, o, -1) ∈ pL x')
    (Hg : pEn x' = 0 → pEn (P i0) = 0)
    (Hh : hR n (va_up P i0 x') (kTu (K' j0)) g' j0)
    (Hi : ∀ j : Nat, j < 20 → j ≠ j0 → kTu (K' j) = kTu (K j)) : sR mo n (va_up P i0 x') K' du g' := by
  obtain ⟨h1, h2, h3, h4, h5, M, h6, h7, h8, h9⟩ := h
  refine ⟨fun i hi => ?_, Hd, fun j hj => ?_, fun p hp1 hp2 => ?_, fun i hi1 hi2 j hj => ?_, M, h6, h7, h8, Nat.le_trans (cW_mono n (fun i hi z => ?_)) h9⟩
  · by_cases hii : i = i0
    · subst hii; rw [vp_us]; exact He
    · rw [vp_un hii]
      exact pR_congr rfl (Hc i hii) (Hc5 i hii) (Ha i hii) (h1 i hi)
  · by_cases hjj : j = j0
    · subst hjj; exact Hh
    · have hg6 : ∀ i : Nat, g' 6 (20 * i + j) = g 6 (20 * i + j) := fun i => by
        by_cases hii : i = i0
        · subst hii; exact Hb j hj hjj
        · exact (Ha i hii j hj).1
      rw [Hi j hj hjj]
      rcases h3 j hj with ⟨b1, b2⟩ | ⟨i, q, o, b1, b2, b3, b4⟩
      · exact Or.inl ⟨b1, fun i hi => by rw [hg6]; exact b2 i hi⟩
      · refine Or.inr ⟨i, q, o, b1, b2, ?_, fun i' hi' => by rw [hg6]; exact b4 i' hi'⟩
        by_cases hii : i = i0
        · subst hii; rw [vp_us]; exact Hf j hj hjj q o b3
        · rw [vp_un hii]; exact b3
  · obtain ⟨i, rfl⟩ : ∃ i, p = i + 1 := ⟨p - 1, by omega⟩
    rw [Hc i (by omega) 2 (by omega) (by omega), Hc i (by omega) 3 (by omega) (by omega), Hc i (by omega) 4 (by omega) (by omega)]
    exact h4 (i + 1) hp1 hp2
  · rw [(Ha i (by omega) j hj).1, (Ha i (by omega) j hj).2.2]
    exact h5 i hi1 hi2 j hj
  · by_cases hii : i = i0
    · subst hii; rw [vp_us] at z; exact Hg z
    · rw [vp_un hii] at z; exact z
theorem ix_ne {i i' j j' : Nat} (hj : j < 20) (hj' : j' < 20) (h : i ≠ i' ∨ j ≠ j') : 20 * i + j ≠ 20 * i' + j' := by omega
section OPS
variable {mo : Int32} {n : Nat} {P : Nat → PT} {K : Nat → KT} {du : Nat → Int64} {g : Nat → Nat → Int32}
/-- office -/
theorem sR_office (h : sR mo n P K du g) {j : Nat} (hj : j < 20) (o sk : Int32) : sR mo n P (va_up K j (kAd (K j), 1, o, sk, kTu (K j))) du (va_up (va_up (va_up g 9 (upd (g 9) j 1)) 10 (upd ((va_up g 9 (upd (g 9) j 1)) 10) j o)) 11 (upd ((va_up (va_up g 9 (upd (g 9) j 1)) 10 (upd ((va_up g 9 (upd (g 9) j 1)) 10) j o)) 11) j sk)) := by
  refine sR_K h (fun k hk => ?_) (fun i hi => ?_) (fun i hi => ?_)
  · rw [vu_ne (by omega), vu_ne (by omega), vu_ne (by omega)]
  · rw [vu_same, vu_ne (show (10 : Nat) ≠ 11 by decide), vu_ne (show (9 : Nat) ≠ 11 by decide), vu_ne (show (9 : Nat) ≠ 10 by decide), vu_same, vu_same, vu_ne (show (11 : Nat) ≠ 10 by decide), vu_ne (show (11 : Nat) ≠ 9 by decide), vu_ne (show (10 : Nat) ≠ 9 by decide)]
    by_cases hij : i = j
    · subst hij
      rw [vp_us, pk_us, pk_us, pk_us]
      exact ⟨rfl, rfl, rfl, Or.inr rfl⟩
    · rw [vp_un hij, pk_un hij, pk_un hij, pk_un hij]
      exact h.2.1 i hi
  · by_cases hij : i = j
    · subst hij; rw [vp_us]; rfl
    · rw [vp_un hij]
/-- office, nothing new -/
theorem sR_office0 (h : sR mo n P K du g) {j : Nat} (hj : j < 20) {o sk : Int32} (h0 : ¬ kIn (K j) = 0) (h1 : kOf (K j) = o) (h2 : kSk (K j) = sk) : sR mo n P K du (va_up (va_up (va_up g 9 (upd (g 9) j 1)) 10 (upd ((va_up g 9 (upd (g 9) j 1)) 10) j o)) 11 (upd ((va_up (va_up g 9 (upd (g 9) j 1)) 10 (upd ((va_up g 9 (upd (g 9) j 1)) 10) j o)) 11) j sk)) := by
  refine sR_K h (fun k hk => ?_) (fun i hi => ?_) (fun i hi => rfl)
  · rw [vu_ne (by omega), vu_ne (by omega), vu_ne (by omega)]
  · rw [vu_same, vu_ne (show (10 : Nat) ≠ 11 by decide), vu_ne (show (9 : Nat) ≠ 11 by decide), vu_ne (show (9 : Nat) ≠ 10 by decide), vu_same, vu_same, vu_ne (show (11 : Nat) ≠ 10 by decide), vu_ne (show (11 : Nat) ≠ 9 by decide), vu_ne (show (10 : Nat) ≠ 9 by decide)]
    by_cases hij : i = j
    · subst hij
      rw [pk_us, pk_us, pk_us]
      have hh := h.2.1 i hi
      refine ⟨?_, h1, h2, Or.inr rfl⟩
      rcases hh.2.2.2 with z | z
      · exact absurd (hh.1.trans z) h0
      · exact hh.1.trans z
    · rw [pk_un hij, pk_un hij, pk_un hij]
      exact h.2.1 i hi
/-- leave, nothing held -/
theorem sR_leave0 (h : sR mo n P K du g) {j : Nat} (hj : j < 20) (ht : kTu (K j) = none) : sR mo n P (va_up K j (kAd (K j), 0, kOf (K j), kSk (K j), none)) du (va_up g 9 (upd (g 9) j 0)) := by
  refine sR_K h (fun k hk => ?_) (fun i hi => ?_) (fun i hi => ?_)
  · rw [vu_ne (by omega)]
  · rw [vu_same, vu_ne (show (10 : Nat) ≠ 9 by decide), vu_ne (show (11 : Nat) ≠ 9 by decide)]
    by_cases hij : i = j
    · subst hij
      rw [vp_us, pk_us]
      have hh := h.2.1 i hi
      exact ⟨rfl, hh.2.1, hh.2.2.1, Or.inl rfl⟩
    · rw [vp_un hij, pk_un hij]
      exact h.2.1 i hi
  · by_cases hij : i = j
    · subst hij; rw [vp_us]; exact ht.symm
    · rw [vp_un hij]
/-- give -/
theorem sR_give (h : sR mo n P K du g) {j b : Nat} (hj : j < 20) (hb : b < n) (hd : g 6 (20 * b + j) = 0) (ht : kTu (K j) = none) (q : Nat) : sR mo n (va_up P b (setL (P b) ((q, nI j, kOf (K j), -1) :: pL (P b)))) (va_up K j (kAd (K j), kIn (K j), kOf (K j), kSk (K j), some q)) du (gG g b j) := by
  have e : ∀ k : Nat, k ≠ 6 → k ≠ 7 → gG g b j k = g k := fun k h1 h2 => by unfold gG; rw [vu_ne h2, vu_ne h1]
  have e6 : gG g b j 6 = upd (g 6) (20 * b + j) 2 := by unfold gG; rw [vu_ne (show (6 : Nat) ≠ 7 by decide), vu_same]
  have e7 : gG g b j 7 = upd (g 7) (20 * b + j) (g 10 j) := by unfold gG; rw [vu_same, vu_ne (show (7 : Nat) ≠ 6 by decide), vu_ne (show (10 : Nat) ≠ 6 by decide)]
  obtain ⟨a1, a2, a3, a4, a5, a6⟩ := h.1 b hb
  have hcl := h.2.1 j hj
  have hno : ∀ s ∈ pL (P b), s.2.1 ≠ nI j := fun s hs z => by
    rcases (lR_at a5 hj hs z).2 with y | y | y <;> rw [hd] at y <;> exact absurd y.2.1 (by decide)
  refine sR_one h hb (j0 := j) (fun i hi j' hj' => ?_) (fun j' hj' hne => ?_) (fun i hi k hk1 hk2 => by rw [e k (by omega) (by omega)]) (fun i hi m hm => by rw [e 5 (by decide) (by decide)]) (fun i hi => ?_) ?_ (fun j' _ _ q' o hm => List.mem_cons_of_mem _ hm) (fun z => z) ?_ (fun j' _ hne => by rw [vp_un hne])
  · rw [e6, e7, e 8 (by decide) (by decide), pk_un (ix_ne hj' hj (Or.inl hi)), pk_un (ix_ne hj' hj (Or.inl hi))]
    exact ⟨rfl, rfl, rfl⟩
  · rw [e6, pk_un (ix_ne hj' hj (Or.inr hne))]
  · rw [e 9 (by decide) (by decide), e 10 (by decide) (by decide), e 11 (by decide) (by decide)]
    by_cases hij : i = j
    · subst hij; rw [vp_us]; exact hcl
    · rw [vp_un hij]; exact h.2.1 i hi
  · refine ⟨a1, by rw [e 1 (by decide) (by decide)]; exact a2, by rw [e 2 (by decide) (by decide)]; exact a3, by rw [e 3 (by decide) (by decide)]; exact a4, ⟨?_, fun s hs => ?_, fun j' hj' hn => ?_⟩, fun z => ?_⟩
    · exact List.pairwise_cons.mpr ⟨fun s hs z => hno s hs z.symm, a5.1⟩
    · rcases List.mem_cons.mp hs with rfl | hs
      · refine ⟨j, hj, rfl, ?_, Or.inl ⟨rfl, ?_, ?_⟩⟩
        · rw [e7, pk_us]; exact hcl.2.1.symm
        · rw [e6, pk_us]
        · rw [e 8 (by decide) (by decide)]; exact (a5.2.2 j hj hno).2
      · obtain ⟨j', hj', hc, hts⟩ := a5.2.1 s hs
        have hne : j' ≠ j := fun z => hno s hs (by rw [hc, z])
        refine ⟨j', hj', hc, tR_congr ?_ hts⟩
        rw [e6, e7, e 8 (by decide) (by decide), pk_un (ix_ne hj' hj (Or.inr hne)), pk_un (ix_ne hj' hj (Or.inr hne))]
        exact ⟨rfl, rfl, rfl⟩
    · have hne : j' ≠ j := fun z => hn _ List.mem_cons_self (by rw [z])
      rw [e6, e 8 (by decide) (by decide), pk_un (ix_ne hj' hj (Or.inr hne))]
      exact a5.2.2 j' hj' (fun s hs => hn s (List.mem_cons_of_mem _ hs))
    · obtain ⟨b1, k, b2⟩ := a6 z
      refine ⟨b1, k, kR_congr (x := P b) (by rw [e 4 (by decide) (by decide)]) (fun m _ => by rw [e 5 (by decide) (by decide)]) rfl rfl ?_ (fun v hv => ?_) b2⟩
      · show (if (-1 : Int32) < 0 then cA (pL (P b)) else cA (pL (P b)) + 1) = _
        rw [if_pos (by decide)]
      · show (decide ((-1 : Int32) = v) || hasE v (pL (P b))) = _
        rw [show decide ((-1 : Int32) = v) = false from decide_eq_false (fun z => hv (by rw [← z]; decide))]
        rfl
  · rw [vp_us]
    refine Or.inr ⟨b, q, kOf (K j), hb, rfl, by rw [vp_us]; exact List.mem_cons_self, fun i' hi' => ?_⟩
    rw [e6]
    by_cases hib : i' = b
    · subst hib; rw [pk_us]; exact ⟨fun _ => rfl, fun _ => rfl⟩
    · rw [pk_un (ix_ne hj hj (Or.inl hib))]
      refine ⟨fun z => ?_, fun z => absurd z hib⟩
      rcases h.2.2.1 j hj with ⟨-, y⟩ | ⟨i, q', o', -, y, -⟩
      · exact absurd z (y i' hi')
      · rw [ht] at y; cases y
/-- leave, with a picture -/
theorem sR_leave1 (h : sR mo n P K du g) {j i q : Nat} {o : Int32} (hj : j < 20) (hi : i < n) (hm : (q, nI j, o, -1) ∈ pL (P i)) (hu : ∀ i' : Nat, i' < n → (g 6 (20 * i' + j) = 2 ↔ i' = i)) (hq : ∀ s ∈ pL (P i), s.1 = q → s.2.1 = nI j) : sR mo n (va_up P i (setL (P i) (sE q (-2) (pL (P i))))) (va_up K j (kAd (K j), 0, kOf (K j), kSk (K j), none)) du (va_up (va_up g 9 (upd (g 9) j 0)) 6 (upd ((va_up g 9 (upd (g 9) j 0)) 6) (20 * i + j) 1)) := by
  generalize hG : va_up (va_up g 9 (upd (g 9) j 0)) 6 (upd ((va_up g 9 (upd (g 9) j 0)) 6) (20 * i + j) 1) = G
  have e : ∀ k : Nat, k ≠ 6 → k ≠ 9 → G k = g k := fun k h1 h2 => by rw [← hG, vu_ne h1, vu_ne h2]
  have e6 : G 6 = upd (g 6) (20 * i + j) 1 := by rw [← hG, vu_same, vu_ne (show (6 : Nat) ≠ 9 by decide)]
  have e9 : G 9 = upd (g 9) j 0 := by rw [← hG, vu_ne (show (9 : Nat) ≠ 6 by decide), vu_same]
  obtain ⟨a1, a2, a3, a4, a5, a6⟩ := h.1 i hi
  have hc := sE_cnt (x := -2) (pL (P i)) a5.1 hm hq
  refine sR_one h hi (j0 := j) (fun i' hi' j' hj' => ?_) (fun j' hj' hne => ?_) (fun i' _ k _ _ => by rw [e k (by omega) (by omega)]) (fun i' _ m _ => by rw [e 5 (by decide) (by decide)]) (fun j' hj' => ?_) ?_ (fun j' hj' hne q' o' hm' => ?_) (fun z => z) ?_ (fun j' _ hne => by rw [vp_un hne])
  · rw [e6, e 7 (by decide) (by decide), e 8 (by decide) (by decide), pk_un (ix_ne hj' hj (Or.inl hi'))]
    exact ⟨rfl, rfl, rfl⟩
  · rw [e6, pk_un (ix_ne hj' hj (Or.inr hne))]
  · rw [e9, e 10 (by decide) (by decide), e 11 (by decide) (by decide)]
    by_cases hij : j' = j
    · subst hij
      rw [vp_us, pk_us]
      have hh := h.2.1 j' hj'
      exact ⟨rfl, hh.2.1, hh.2.2.1, Or.inl rfl⟩
    · rw [vp_un hij, pk_un hij]; exact h.2.1 j' hj'
  · refine ⟨a1, by rw [e 1 (by decide) (by decide)]; exact a2, by rw [e 2 (by decide) (by decide)]; exact a3, by rw [e 3 (by decide) (by decide)]; exact a4, lR_sE a5 hm hq (fun j' hj' hne => ?_) hj ?_, fun z => ?_⟩
    · rw [e6, e 7 (by decide) (by decide), e 8 (by decide) (by decide), pk_un (ix_ne hj' hj (Or.inr hne))]
      exact ⟨rfl, rfl, rfl⟩
    · have ht := lR_at a5 hj hm rfl
      refine ⟨by rw [e 7 (by decide) (by decide)]; exact ht.1, Or.inr (Or.inl ⟨rfl, by rw [e6, pk_us], ?_⟩)⟩
      rw [e 8 (by decide) (by decide)]
      rcases ht.2 with y | y | y
      · exact y.2.2
      · exact y.2.2
      · exact absurd (show (-1 : Int32) < 0 by decide) y.1
    · obtain ⟨b1, k, b2⟩ := a6 z
      refine ⟨b1, k, kR_congr (x := P i) (by rw [e 4 (by decide) (by decide)]) (fun m _ => by rw [e 5 (by decide) (by decide)]) rfl rfl ?_ (fun v hv => ?_) b2⟩
      · show cA (sE q (-2) (pL (P i))) = _
        rw [hc.1, if_pos (by decide)]; rfl
      · show hasE v (sE q (-2) (pL (P i))) = _
        rw [hc.2 v hv, show decide ((-2 : Int32) = v) = false from decide_eq_false (fun z => hv (by rw [← z]; decide))]
        rfl
  · refine sE_mem.mpr ⟨_, hm', ?_⟩
    rw [if_neg (fun z => hne ?_)]
    have z2 : nI j' = nI j := hq _ hm' z
    rw [nI_eq (by omega) (by omega)] at z2
    exact z2
  · rw [vp_us]
    refine Or.inl ⟨rfl, fun i' hi' z => ?_⟩
    rw [e6] at z
    by_cases hii : i' = i
    · subst hii; rw [pk_us] at z; exact absurd z (by decide)
    · rw [pk_un (ix_ne hj hj (Or.inl hii))] at z
      exact hii ((hu i' hi').mp z)
/-- a new picture -/
theorem sR_picture (h : sR mo n P K du g) (hn : n < 300) (q : Nat) (t : Int64) (sk : Int32) (hc : nI (cW P n) < mo) : sR mo (n + 1) (va_up P n (q, t, sk, 2, 0, 0, 0, [])) K (vp_updL du (n + 1) t) (va_up g 1 (upd (g 1) (n + 1) sk)) := by
  generalize hG : va_up g 1 (upd (g 1) (n + 1) sk) = G
  have e : ∀ k : Nat, k ≠ 1 → G k = g k := fun k h1 => by rw [← hG, vu_ne h1]
  have e1 : G 1 = upd (g 1) (n + 1) sk := by rw [← hG, vu_same]
  obtain ⟨h1, h2, h3, h4, h5, M, h6, h7, h8, h9⟩ := h
  have hcw : ∀ m : Nat, m ≤ n → cW (va_up P n (q, t, sk, 2, 0, 0, 0, [])) m = cW P m := by
    intro m
    induction m with
    | zero => intro _; rfl
    | succ m ih => intro hm; simp only [cW]; rw [ih (by omega), vp_un (by omega : m ≠ n)]
  have hcn : cW P n ≤ n := by
    have : ∀ m : Nat, cW P m ≤ m := by
      intro m
      induction m with
      | zero => exact Nat.le_refl _
      | succ m ih => simp only [cW]; split <;> omega
    exact this n
  refine ⟨fun i hi => ?_, fun j hj => by rw [e 9 (by decide), e 10 (by decide), e 11 (by decide)]; exact h2 j hj, fun j hj => ?_, fun p hp1 hp2 => by rw [e 2 (by decide), e 3 (by decide), e 4 (by decide)]; exact h4 p (by omega) hp2, fun i hi1 hi2 j hj => by rw [e 6 (by decide), e 8 (by decide)]; exact h5 i (by omega) hi2 j hj, M, h6, h7, h8, ?_⟩
  · by_cases hin : i = n
    · subst hin
      rw [vp_us]
      have z := h4 (i + 1) (by omega) (by omega)
      refine ⟨by rw [pk_uLs]; rfl, by rw [e1, pk_us]; rfl, by rw [e 2 (by decide), z.1]; rfl, by rw [e 3 (by decide), z.2.1]; rfl, ⟨List.Pairwise.nil, fun s hs => (by cases hs), fun j hj _ => by rw [e 6 (by decide), e 8 (by decide)]; exact h5 i (Nat.le_refl _) hn j hj⟩, fun _ => ⟨rfl, 0, by decide, rfl, by rw [e 4 (by decide), z.2.2]; rfl, rfl, rfl, fun v _ => rfl, fun z => by cases z⟩⟩
    · rw [vp_un hin]
      refine pR_congr (pk_uLn (by omega)) (fun k hk1 hk2 => ?_) (fun m _ => by rw [e 5 (by decide)]) (fun j _ => by rw [e 6 (by decide), e 7 (by decide), e 8 (by decide)]; exact ⟨rfl, rfl, rfl⟩) (h1 i (by omega))
      by_cases hk : k = 1
      · subst hk; rw [e1, pk_un (by omega)]
      · rw [e k hk]
  · rcases h3 j hj with ⟨b1, b2⟩ | ⟨i, q', o, b1, b2, b3, b4⟩
    · refine Or.inl ⟨b1, fun i hi => ?_⟩
      rw [e 6 (by decide)]
      by_cases hin : i = n
      · subst hin; rw [(h5 i (Nat.le_refl _) hn j hj).1]; decide
      · exact b2 i (by omega)
    · refine Or.inr ⟨i, q', o, by omega, b2, by rw [vp_un (by omega)]; exact b3, fun i' hi' => ?_⟩
      rw [e 6 (by decide)]
      by_cases hin : i' = n
      · subst hin
        rw [(h5 i' (Nat.le_refl _) hn j hj).1]
        exact ⟨fun z => absurd z (by decide), fun z => by omega⟩
      · exact b4 i' (by omega)
  · rw [h8, nI_ltI (by omega) (by omega)] at hc
    simp only [cW]
    rw [hcw n (Nat.le_refl _)]
    split <;> omega
end OPS
