/-! the class's picture of its cells, and what writes do to it -/
def setL (x : PT) (L : List TR) : PT := (x.1, x.2.1, x.2.2.1, x.2.2.2.1, x.2.2.2.2.1, x.2.2.2.2.2.1, x.2.2.2.2.2.2.1, L)
theorem vp_uu {α : Type} {f : Nat → α} {k : Nat} {v w : α} : va_up (va_up f k v) k w = va_up f k w := by
  funext x
  by_cases h : x = k <;> simp [va_up, h]
theorem vp_us {α : Type} {f : Nat → α} {k : Nat} {v : α} : va_up f k v k = v := by simp [va_up]
theorem vp_un {α : Type} {f : Nat → α} {k j : Nat} {v : α} (h : j ≠ k) : va_up f k v j = f j := by simp [va_up, h]
theorem eT_inj {a b c e a' b' c' e' : Int32} {d d' : Option Nat} (h : (eT a b c d e : va_E) = eT a' b' c' d' e') : a = a' ∧ b = b' ∧ c = c' ∧ e = e' := by
  simp only [Sum.inr.injEq, Prod.mk.injEq, List.cons.injEq, Value.int.injEq] at h
  exact ⟨h.2.1, h.2.2.1, h.2.2.2.1, h.2.2.2.2.2.1⟩
theorem cx_off {f : wd_M} {no no' : Int32} {q : Nat} {ck to : Int32} {ea : Option Nat} {te : Int32} {e : va_E} (hq : f q = some (eT no ck to ea te)) (hn : no' ≠ no) : ∀ (L : List TR) (r : Option Nat), cx f no' L r → cx (wd_up f q e) no' L r := by
  intro L
  induction L with
  | nil => intro r h; exact h
  | cons t L ih =>
    intro r h
    obtain ⟨h1, er, h2, h3⟩ := h
    refine ⟨h1, er, ?_, ih er h3⟩
    rw [wd_un (fun z => ?_)]
    · exact h2
    · rw [z, hq] at h2
      exact hn (eT_inj (Option.some.inj h2)).1.symm
theorem cx_mem {f : wd_M} {no : Int32} : ∀ (L : List TR) (r : Option Nat), cx f no L r → ∀ t ∈ L, ∃ er : Option Nat, f t.1 = some (eT no t.2.1 t.2.2.1 er t.2.2.2) := by
  intro L
  induction L with
  | nil => intro r _ t ht; cases ht
  | cons s L ih =>
    intro r h t ht
    obtain ⟨h1, er, h2, h3⟩ := h
    rcases List.mem_cons.mp ht with rfl | ht
    · exact ⟨er, h2⟩
    · exact ih er h3 t ht
section CREP
variable {f : wd_M} {g : Nat → Option Nat} {n : Nat} {P : Nat → PT} {K : Nat → KT}
theorem rk_ne (h : rk f g K) {i j : Nat} (hi : i < 20) (hj : j < 20) (hne : i ≠ j) : kAd (K i) ≠ kAd (K j) := by
  intro q
  have h1 := (h i hi).2
  have h2 := (h j hj).2
  rw [q, h2] at h1
  have e0 : nI j = nI i := by
    have := h1
    simp only [Option.some.injEq, Sum.inr.injEq, Prod.mk.injEq, List.cons.injEq, Value.int.injEq] at this
    exact this.2.1
  rw [nI_eq (by omega) (by omega)] at e0
  omega
theorem rk_set (h : rk f g K) {j : Nat} (hj : j < 20) {x : KT} (hx : kAd x = kAd (K j)) : rk (wd_up f (kAd (K j)) (eJ (nI j) x)) g (va_up K j x) := by
  intro i hi
  by_cases hij : i = j
  · subst hij
    rw [vp_us, hx]
    exact ⟨(h i hi).1, wd_us⟩
  · rw [vp_un hij]
    exact ⟨(h i hi).1, by rw [wd_un (rk_ne h hi hj hij)]; exact (h i hi).2⟩
theorem rk_new (h : rk f g K) {q : Nat} {e : va_E} (hq : f q = none) : rk (wd_up f q e) g K := fun j hj => ⟨(h j hj).1, by rw [wd_un (wd_neF (h j hj).2 hq)]; exact (h j hj).2⟩
theorem rk_arr (h : rk f g K) {q : Nat} {e : va_E} {x : ClassId × vp_A} (hq : f q = some (.inl x)) : rk (wd_up f q e) g K := fun j hj => ⟨(h j hj).1, by rw [wd_un (wd_neA (h j hj).2 hq)]; exact (h j hj).2⟩
theorem rp_new (h : rp f g n P) {q : Nat} {e : va_E} (hq : f q = none) : rp (wd_up f q e) g n P := by
  refine ⟨h.1, fun j hj => ?_, h.2.2⟩
  obtain ⟨h1, lb, h4, h5⟩ := h.2.1 j hj
  exact ⟨h1, lb, by rw [wd_un (wd_neF h4 hq)]; exact h4, cx_upN hq h5⟩
theorem rp_turn (h : rp f g n P) {i : Nat} (hi : i < n) {q : Nat} {ck to : Int32} {ea : Option Nat} {te x : Int32} (hq : f q = some (eT (nI (i + 1)) ck to ea te)) : rp (wd_up f q (eT (nI (i + 1)) ck to ea x)) g n (va_up P i (setL (P i) (sE q x (pL (P i))))) := by
  refine ⟨h.1, fun j hj => ?_, h.2.2⟩
  obtain ⟨h1, lb, h4, h5⟩ := h.2.1 j hj
  have hn := h.1
  by_cases hji : j = i
  · subst hji
    rw [vp_us]
    exact ⟨h1, lb, by rw [show pAd (setL (P j) (sE q x (pL (P j)))) = pAd (P j) from rfl, wd_un (wd_ne h4 hq (by decide))]; exact h4, cx_entry hq _ _ h5⟩
  · rw [vp_un hji]
    exact ⟨h1, lb, by rw [wd_un (wd_ne h4 hq (by decide))]; exact h4, cx_off hq (fun z => hji (by rw [nI_eq (by omega) (by omega)] at z; omega)) _ _ h5⟩
end CREP
/-- the class's object stands for this state -/
def rC (f : wd_M) (ca : Nat → ClassId) (a : Nat) (mo : Int32) (nw : Int64) (lt : Int32) (n : Nat) (P : Nat → PT) (K : Nat → KT) : Prop :=
  ∃ (pa ka : Nat) (gp gk : Nat → Option Nat), f a = some (eR mo pa ka (nI n) nw lt) ∧ f pa = some (eA (ca 0) 300 gp) ∧ f ka = some (eA (ca 1) 20 gk) ∧ rp f gp n P ∧ rk f gk K ∧ pa ≠ ka
section CREP2
variable {f f1 f' : wd_M} {ca : Nat → ClassId} {a : Nat} {mo : Int32} {nw : Int64} {lt : Int32} {n : Nat} {P : Nat → PT} {K : Nat → KT}
/-- a clerk is written -/
theorem rC_clerk (h : rC f ca a mo nw lt n P K) {j : Nat} (hj : j < 20) {x : KT} (hx : kAd x = kAd (K j)) : rC (wd_up f (kAd (K j)) (eJ (nI j) x)) ca a mo nw lt n P (va_up K j x) := by
  obtain ⟨pa, ka, gp, gk, h1, h2, h3, h4, h5, h6⟩ := h
  have hk := (h5 j hj).2
  exact ⟨pa, ka, gp, gk, by rw [wd_un (wd_ne h1 hk (by decide))]; exact h1, by rw [wd_un (Ne.symm (wd_neA hk h2))]; exact h2, by rw [wd_un (Ne.symm (wd_neA hk h3))]; exact h3, rp_off h4 hk (by decide) (by decide), rk_set h5 hj hx, h6⟩
/-- an entry is written into a turn of picture i -/
theorem rC_turn (h : rC f ca a mo nw lt n P K) {i : Nat} (hi : i < n) {q : Nat} {ck to : Int32} {ea : Option Nat} {te x : Int32} (hq : f q = some (eT (nI (i + 1)) ck to ea te)) : rC (wd_up f q (eT (nI (i + 1)) ck to ea x)) ca a mo nw lt n (va_up P i (setL (P i) (sE q x (pL (P i))))) K := by
  obtain ⟨pa, ka, gp, gk, h1, h2, h3, h4, h5, h6⟩ := h
  exact ⟨pa, ka, gp, gk, by rw [wd_un (wd_ne h1 hq (by decide))]; exact h1, by rw [wd_un (Ne.symm (wd_neA hq h2))]; exact h2, by rw [wd_un (Ne.symm (wd_neA hq h3))]; exact h3, rp_turn h4 hi hq, rk_off h5 hq (by decide), h6⟩
/-- a new cell -/
theorem rC_new (h : rC f ca a mo nw lt n P K) {q : Nat} {e : va_E} (hq : f q = none) : rC (wd_up f q e) ca a mo nw lt n P K := by
  obtain ⟨pa, ka, gp, gk, h1, h2, h3, h4, h5, h6⟩ := h
  exact ⟨pa, ka, gp, gk, by rw [wd_un (wd_neF h1 hq)]; exact h1, by rw [wd_un (wd_neF h2 hq)]; exact h2, by rw [wd_un (wd_neF h3 hq)]; exact h3, rp_new h4 hq, rk_new h5 hq, h6⟩
/-- a picture is written -/
theorem rC_pic (h : rC f ca a mo nw lt n P K) {i : Nat} (hi : i < n) {x : PT} {la : Option Nat} (hx : pAd x = pAd (P i)) (hc : cx f (nI (i + 1)) (pL x) la) : rC (wd_up f (pAd (P i)) (eQ (nI (i + 1)) x la)) ca a mo nw lt n (va_up P i x) K := by
  obtain ⟨pa, ka, gp, gk, h1, h2, h3, h4, h5, h6⟩ := h
  obtain ⟨-, lb, hp, -⟩ := h4.2.1 i hi
  exact ⟨pa, ka, gp, gk, by rw [wd_un (wd_ne h1 hp (by decide))]; exact h1, by rw [wd_un (Ne.symm (wd_neA hp h2))]; exact h2, by rw [wd_un (Ne.symm (wd_neA hp h3))]; exact h3, rp_set h4 hi hx (cx_upC hp (by decide) hc), rk_off h5 hp (by decide), h6⟩
/-- the object itself is written -/
theorem rC_obj (h : rC f ca a mo nw lt n P K) {mo' : Int32} {nw' : Int64} {lt' : Int32} (hf : ∀ (pa ka : Nat) (md : Int32), f a = some (eR mo pa ka md nw lt) → f' = wd_up f a (eR mo' pa ka md nw' lt')) : rC f' ca a mo' nw' lt' n P K := by
  obtain ⟨pa, ka, gp, gk, h1, h2, h3, h4, h5, h6⟩ := h
  rw [hf pa ka _ h1]
  exact ⟨pa, ka, gp, gk, wd_us, by rw [wd_un (Ne.symm (wd_neA h1 h2))]; exact h2, by rw [wd_un (Ne.symm (wd_neA h1 h3))]; exact h3, rp_off h4 h1 (by decide) (by decide), rk_off h5 h1 (by decide), h6⟩
end CREP2
/-- a turn known by its clerk: its cell -/
theorem rp_turnAt {f : wd_M} {g : Nat → Option Nat} {n : Nat} {P : Nat → PT} (h : rp f g n P) {i : Nat} (hi : i < n) {t : TR} (ht : t ∈ pL (P i)) : ∃ er : Option Nat, f t.1 = some (eT (nI (i + 1)) t.2.1 t.2.2.1 er t.2.2.2) := by
  obtain ⟨-, la, -, hc⟩ := h.2.1 i hi
  exact cx_mem _ _ hc t ht
