/-! the class's cells and what its methods answer -/
abbrev eR (mo : Int32) (pa ka : Nat) (md : Int32) (nw : Int64) (lt : Int32) : va_E := .inr (0, [.int mo, .ref pa, .ref ka, .int md, .long nw, .int lt])
abbrev eK (no i o sk : Int32) (t : Option Nat) : va_E := .inr (1, [.int no, .int i, .int o, .int sk, va_rf t])
abbrev eT (pn ck o : Int32) (ea : Option Nat) (en : Int32) : va_E := .inr (2, [.int pn, .int ck, .int o, va_rf ea, .int en])
abbrev eP (no : Int32) (du : Int64) (sk wa an en sw : Int32) (la : Option Nat) : va_E := .inr (3, [.int no, .long du, .int sk, .int wa, .int an, .int en, .int sw, va_rf la])
abbrev eA (cA : ClassId) (n : Nat) (g : Nat → Option Nat) : va_E := .inl (cA, n, .inr (.inr (.inr (.inr g))))
/-- a boolean answer -/
def zb (P : Prop) (r : Int32) : Prop := (P ∧ r = 1) ∨ (¬ P ∧ r = 0)
abbrev wi (x y : Int32) : Prop := ¬ x < 0 ∧ ¬ y < x
abbrev isT (nw t : Int64) : Prop := ¬ t < nw ∧ ¬ 1000000000 < t
abbrev okK (x : Int32) : Prop := ¬ x < 0 ∧ ¬ 20 ≤ x
abbrev okP (x : Int32) : Prop := ¬ x < 1 ∧ ¬ 300 < x
/-- a turn in a chain: its address, clerk, office, entry -/
abbrev TR : Type := Nat × Int32 × Int32 × Int32
def cx (f : wd_M) (no : Int32) : List TR → Option Nat → Prop
  | [], r => r = none
  | t :: L, r => r = some t.1 ∧ ∃ er : Option Nat, f t.1 = some (eT no t.2.1 t.2.2.1 er t.2.2.2) ∧ cx f no L er
def tk : List TR → Nat
  | [] => 0
  | t :: L => if t.2.2.2 = -2 then tk L else tk L + 1
def hasE (x : Int32) : List TR → Bool
  | [] => false
  | t :: L => decide (t.2.2.2 = x) || hasE x L
def fndE (ck : Int32) : List TR → Int32
  | [] => -1
  | t :: L => if t.2.1 = ck then t.2.2.2 else fndE ck L
def bar (no o wa : Int32) : List TR → Bool
  | [] => false
  | t :: L => (decide (t.2.1 = no) || ((decide (t.2.2.1 = o) && !decide (t.2.2.2 = -2)) && decide (wa = 2))) || bar no o wa L
def stt (en wa : Int32) (n : Nat) : Int32 := if en = 0 then (if nI n < wa then 0 else 1) else en
def fre (en sk wa : Int32) (L : List TR) (no o ks : Int32) : Bool := ((decide (en = 0) && !decide (ks < sk)) && decide (nI (tk L) < wa)) && !bar no o wa L
/-- what an answer x makes of wants, end, settledWith (an: the answers with it; al: there is one like it) -/
def tE (wa an en sw x : Int32) (al : Bool) : Int32 × Int32 × Int32 :=
  if ¬ en = 0 then (wa, en, sw) else if al = true then (wa, (if x = 0 then 3 else 2), (if x = 0 then sw else x)) else if an = 2 then (3, en, sw) else if an ≤ 2 then (wa, en, sw) else (wa, 3, sw)
/-- a picture: its address, due time, skill, wants, answers, end, settledWith, turns -/
abbrev PT : Type := Nat × Int64 × Int32 × Int32 × Int32 × Int32 × Int32 × List TR
def pAd (x : PT) : Nat := x.1
def pDu (x : PT) : Int64 := x.2.1
def pSk (x : PT) : Int32 := x.2.2.1
def pWa (x : PT) : Int32 := x.2.2.2.1
def pAn (x : PT) : Int32 := x.2.2.2.2.1
def pEn (x : PT) : Int32 := x.2.2.2.2.2.1
def pSw (x : PT) : Int32 := x.2.2.2.2.2.2.1
def pL (x : PT) : List TR := x.2.2.2.2.2.2.2
abbrev eQ (no : Int32) (x : PT) (la : Option Nat) : va_E := eP no (pDu x) (pSk x) (pWa x) (pAn x) (pEn x) (pSw x) la
/-- the pictures in their array -/
def rp (f : wd_M) (g : Nat → Option Nat) (n : Nat) (P : Nat → PT) : Prop := n ≤ 300 ∧ (∀ i : Nat, i < n → g i = some (pAd (P i)) ∧ ∃ la : Option Nat, f (pAd (P i)) = some (eQ (nI (i + 1)) (P i) la) ∧ cx f (nI (i + 1)) (pL (P i)) la) ∧ ∀ i : Nat, n ≤ i → g i = none
def cW (P : Nat → PT) : Nat → Nat
  | 0 => 0
  | n + 1 => if pEn (P n) = 0 then cW P n + 1 else cW P n
def frP (x : PT) (no o ks : Int32) : Bool := fre (pEn x) (pSk x) (pWa x) (pL x) no o ks
def gvn (P : Nat → PT) (no o ks : Int32) : Nat → Option Nat
  | 0 => none
  | n + 1 => match gvn P no o ks n with
    | none => if frP (P n) no o ks = true then some n else none
    | some b => if pDu (P n) < pDu (P b) ∧ frP (P n) no o ks = true then some n else some b
def agB (P : Nat → PT) (x y : Int32) : Nat → Nat
  | 0 => 0
  | n + 1 => if ¬ fndE x (pL (P n)) < 0 ∧ ¬ fndE y (pL (P n)) < 0 then agB P x y n + 1 else agB P x y n
def agA (P : Nat → PT) (x y : Int32) : Nat → Nat
  | 0 => 0
  | n + 1 => if (¬ fndE x (pL (P n)) < 0 ∧ ¬ fndE y (pL (P n)) < 0) ∧ fndE x (pL (P n)) = fndE y (pL (P n)) then agA P x y n + 1 else agA P x y n
/-- small rows -/
theorem ok20 {x : Int32} (h1 : ¬ x < 0) (h2 : ¬ 20 ≤ x) : ∃ j : Nat, j < 20 ∧ x = nI j := by
  rcases pk_ix x (n := 20) (by decide) with h | h | h
  · exact absurd h h1
  · exact absurd h h2
  · exact h
theorem ok300 {x : Int32} (h1 : ¬ x < 1) (h2 : ¬ 300 < x) : ∃ j : Nat, j < 300 ∧ x = nI (j + 1) := by
  have f0 : (0 : Int32).toInt = 0 := by decide
  have f1 : (1 : Int32).toInt = 1 := by decide
  have g0 : ¬ x < 0 := fun h => h1 (by rw [Int32.lt_iff_toInt_lt] at h ⊢; omega)
  obtain ⟨j, hj, rfl⟩ := nI_of g0
  rw [Int32.lt_iff_toInt_lt, nI_toInt hj] at h1 h2
  have e1 : (1 : Int32).toInt = 1 := by decide
  have e3 : (300 : Int32).toInt = 300 := by decide
  rw [e1] at h1
  rw [e3] at h2
  exact ⟨j - 1, by omega, by rw [show j - 1 + 1 = j by omega]⟩
theorem one_sub (j : Nat) : nI (j + 1) - 1 = nI j := by rw [nI_succ]; simp
theorem lt_nge {x y : Int32} (h : ¬ y ≤ x) : x < y := by
  rw [Int32.le_iff_toInt_le] at h; rw [Int32.lt_iff_toInt_lt]; omega
theorem ge_nlt {x y : Int32} (h : y ≤ x) : ¬ x < y := by
  rw [Int32.le_iff_toInt_le] at h; rw [Int32.lt_iff_toInt_lt]; omega
theorem wd_uu {f : wd_M} {a : Nat} {e e' : va_E} : wd_up (wd_up f a e) a e' = wd_up f a e' := by
  funext q
  by_cases h : q = a
  · subst h; rw [wd_us, wd_us]
  · rw [wd_un h, wd_un h, wd_un h]
theorem lN_s (k : Nat) : lN (k + 1) = lN k + 1 := (lN_1 k).symm
theorem cmp_nge {x y : Int64} (h : ¬ 0 ≤ lg_cmp x y) : x < y := by
  rw [lg_cmp_ge] at h; exact Int64.not_le.mp h
theorem cmp_ge {x y : Int64} (h : 0 ≤ lg_cmp x y) : ¬ x < y := by
  rw [lg_cmp_ge] at h; exact Int64.not_lt.mpr h
section GV
variable {P : Nat → PT} {no o ks : Int32} {i j : Nat}
theorem gv_nt (h : none = gvn P no o ks i) (h2 : frP (P i) no o ks = true) : some i = gvn P no o ks (i + 1) := by simp [gvn, ← h, h2]
theorem gv_nf (h : none = gvn P no o ks i) (h2 : ¬ frP (P i) no o ks = true) : none = gvn P no o ks (i + 1) := by simp [gvn, ← h, h2]
theorem gv_st (h : some j = gvn P no o ks i) (h1 : pDu (P i) < pDu (P j)) (h2 : frP (P i) no o ks = true) : some i = gvn P no o ks (i + 1) := by simp [gvn, ← h, h1, h2]
theorem gv_sd (h : some j = gvn P no o ks i) (h1 : ¬ pDu (P i) < pDu (P j)) : some j = gvn P no o ks (i + 1) := by simp [gvn, ← h, h1]
theorem gv_sf (h : some j = gvn P no o ks i) (h2 : ¬ frP (P i) no o ks = true) : some j = gvn P no o ks (i + 1) := by simp [gvn, ← h, h2]
end GV
/-- a clerk: address, in, office, skill, turn -/
abbrev KT : Type := Nat × Int32 × Int32 × Int32 × Option Nat
def kAd (x : KT) : Nat := x.1
def kIn (x : KT) : Int32 := x.2.1
def kOf (x : KT) : Int32 := x.2.2.1
def kSk (x : KT) : Int32 := x.2.2.2.1
def kTu (x : KT) : Option Nat := x.2.2.2.2
abbrev eJ (no : Int32) (x : KT) : va_E := eK no (kIn x) (kOf x) (kSk x) (kTu x)
def rk (f : wd_M) (g : Nat → Option Nat) (K : Nat → KT) : Prop := ∀ j : Nat, j < 20 → g j = some (kAd (K j)) ∧ f (kAd (K j)) = some (eJ (nI j) (K j))
/-- time passes to t: the pictures before place i -/
def sLate (x : PT) : PT := (x.1, x.2.1, x.2.2.1, x.2.2.2.1, x.2.2.2.2.1, 4, x.2.2.2.2.2.2.1, x.2.2.2.2.2.2.2)
def goesL (t : Int64) (x : PT) : Prop := pEn x = 0 ∧ pDu x < t
def pst (t : Int64) (P : Nat → PT) (i : Nat) : Nat → PT := fun j => if j < i ∧ (pEn (P j) = 0 ∧ pDu (P j) < t) then sLate (P j) else P j
def cL (t : Int64) (P : Nat → PT) : Nat → Nat
  | 0 => 0
  | n + 1 => if pEn (P n) = 0 ∧ pDu (P n) < t then cL t P n + 1 else cL t P n
theorem pst_ge {t : Int64} {P : Nat → PT} {i j : Nat} (h : i ≤ j) : pst t P i j = P j := if_neg (fun q => by omega)
theorem pst_no {t : Int64} {P : Nat → PT} {i : Nat} (h : ¬ (pEn (P i) = 0 ∧ pDu (P i) < t)) : pst t P (i + 1) = pst t P i := by
  funext j
  by_cases hj : j = i
  · subst hj
    rw [pst_ge (Nat.le_refl _)]
    exact if_neg (fun q => h q.2)
  · by_cases hl : j < i
    · simp [pst, hl, Nat.lt_succ_of_lt hl]
    · rw [pst_ge (by omega), pst_ge (by omega)]
theorem pst_yes {t : Int64} {P : Nat → PT} {i : Nat} (h : pEn (P i) = 0 ∧ pDu (P i) < t) : pst t P (i + 1) = va_up (pst t P i) i (sLate (P i)) := by
  funext j
  by_cases hj : j = i
  · subst hj
    simp [pst, va_up, h]
  · by_cases hl : j < i
    · simp [pst, va_up, hj, hl, Nat.lt_succ_of_lt hl]
    · simp only [va_up, if_neg hj]
      rw [pst_ge (by omega), pst_ge (by omega)]
/-- chains stay when no turn is written -/
theorem cx_up {f : wd_M} {no : Int32} {a : Nat} {e : va_E} (ha : ∀ x : va_E, f a = some x → ∀ fs : List Value, x ≠ .inr (2, fs)) : ∀ (L : List TR) (r : Option Nat), cx f no L r → cx (wd_up f a e) no L r := by
  intro L
  induction L with
  | nil => intro r h; exact h
  | cons t L ih =>
    intro r h
    obtain ⟨h1, er, h2, h3⟩ := h
    refine ⟨h1, er, ?_, ih er h3⟩
    rw [wd_un (fun q => ha _ (by rw [← q]; exact h2) _ rfl)]
    exact h2
theorem cx_upC {f : wd_M} {no : Int32} {a ci : Nat} {fs : List Value} {e : va_E} (ha : f a = some (.inr (ci, fs))) (hc : ci ≠ 2) {L : List TR} {r : Option Nat} (h : cx f no L r) : cx (wd_up f a e) no L r :=
  cx_up (fun x hx gs q => by rw [ha] at hx; subst q; cases hx; exact hc rfl) L r h
theorem cx_upA {f : wd_M} {no : Int32} {a : Nat} {x : ClassId × vp_A} {e : va_E} (ha : f a = some (.inl x)) {L : List TR} {r : Option Nat} (h : cx f no L r) : cx (wd_up f a e) no L r :=
  cx_up (fun y hy gs q => by rw [ha] at hy; subst q; cases hy) L r h
theorem cx_upN {f : wd_M} {no : Int32} {a : Nat} {e : va_E} (ha : f a = none) {L : List TR} {r : Option Nat} (h : cx f no L r) : cx (wd_up f a e) no L r :=
  cx_up (fun y hy gs q => by rw [ha] at hy; cases hy) L r h
/-- the pictures' addresses differ -/
theorem rp_ne {f : wd_M} {g : Nat → Option Nat} {n : Nat} {P : Nat → PT} (h : rp f g n P) {i j : Nat} (hi : i < n) (hj : j < n) (hne : i ≠ j) : pAd (P i) ≠ pAd (P j) := by
  intro q
  obtain ⟨-, la, h1, -⟩ := h.2.1 i hi
  obtain ⟨-, lb, h2, -⟩ := h.2.1 j hj
  rw [q, h2] at h1
  have e0 : nI (j + 1) = nI (i + 1) := by
    have := h1
    simp only [Option.some.injEq, Sum.inr.injEq, Prod.mk.injEq, List.cons.injEq, Value.int.injEq] at this
    exact this.2.1
  have hn := h.1
  rw [nI_eq (by omega) (by omega)] at e0
  omega
/-- a picture is written -/
theorem rp_set {f : wd_M} {g : Nat → Option Nat} {n : Nat} {P : Nat → PT} (h : rp f g n P) {i : Nat} (hi : i < n) {x : PT} {la : Option Nat} (hx : pAd x = pAd (P i)) (hla : cx (wd_up f (pAd (P i)) (eQ (nI (i + 1)) x la)) (nI (i + 1)) (pL x) la) : rp (wd_up f (pAd (P i)) (eQ (nI (i + 1)) x la)) g n (va_up P i x) := by
  refine ⟨h.1, fun j hj => ?_, h.2.2⟩
  by_cases hji : j = i
  · subst hji
    rw [show va_up P j x j = x by simp [va_up], hx]
    exact ⟨(h.2.1 j hj).1, la, wd_us, hla⟩
  · rw [show va_up P i x j = P j by simp [va_up, hji]]
    obtain ⟨h1, lb, h2, h3⟩ := h.2.1 j hj
    obtain ⟨-, lc, h4, -⟩ := h.2.1 i hi
    exact ⟨h1, lb, by rw [wd_un (rp_ne h hj hi hji)]; exact h2, cx_upC h4 (by decide) h3⟩
/-- a cell that is neither a picture nor a turn is written -/
theorem rp_off {f : wd_M} {g : Nat → Option Nat} {n : Nat} {P : Nat → PT} {a ci : Nat} {fs : List Value} {e : va_E} (h : rp f g n P) (ha : f a = some (.inr (ci, fs))) (h2 : ci ≠ 2) (h3 : ci ≠ 3) : rp (wd_up f a e) g n P := by
  refine ⟨h.1, fun j hj => ?_, h.2.2⟩
  obtain ⟨h1, lb, h4, h5⟩ := h.2.1 j hj
  exact ⟨h1, lb, by rw [wd_un (wd_ne h4 ha (Ne.symm h3))]; exact h4, cx_upC ha h2 h5⟩
theorem rk_off {f : wd_M} {g : Nat → Option Nat} {K : Nat → KT} {a ci : Nat} {fs : List Value} {e : va_E} (h : rk f g K) (ha : f a = some (.inr (ci, fs))) (h1 : ci ≠ 1) : rk (wd_up f a e) g K := fun j hj => ⟨(h j hj).1, by rw [wd_un (wd_ne (h j hj).2 ha (Ne.symm h1))]; exact (h j hj).2⟩
theorem add_n0 (x : Int32) : x + nI 0 = x := by rw [nI_0]; simp
theorem lN_z (k : Nat) : lN k + 0 = lN k := by simp
theorem pst_0 {t : Int64} {P : Nat → PT} : pst t P 0 = P := by
  funext j
  exact pst_ge (Nat.zero_le j)
theorem rp_late {f : wd_M} {g : Nat → Option Nat} {n i : Nat} {t : Int64} {P : Nat → PT} {la : Option Nat} (h : rp f g n (pst t P i)) (hi : i < n) (c : pEn (P i) = 0 ∧ pDu (P i) < t) (hp : f (pAd (P i)) = some (eQ (nI (i + 1)) (P i) la)) (hc : cx f (nI (i + 1)) (pL (P i)) la) : rp (wd_up f (pAd (P i)) (eQ (nI (i + 1)) (sLate (P i)) la)) g n (pst t P (i + 1)) := by
  have h1 := rp_set h hi (x := sLate (P i)) (la := la) (by rw [pst_ge (Nat.le_refl i)]; rfl) (by rw [pst_ge (Nat.le_refl i)]; exact cx_upC hp (by decide) hc)
  rw [pst_ge (Nat.le_refl i)] at h1
  rw [pst_yes c]
  exact h1
def agr (P : Nat → PT) (n : Nat) (x y sd : Int32) : Int64 := if ¬ (okK x ∧ okK y) then -101 else if ¬ wi sd 1 ∨ x = y then -102 else if sd = 1 then lN (agB P x y n) else lN (agA P x y n)
theorem okK_of {x : Int32} {j : Nat} (h : j < 20) (hx : x = nI j) : okK x := by
  subst hx
  exact ⟨nI_pos (by omega), nI_ge h (by decide)⟩
theorem no_K {x : Int32} (h : ¬ okK x) : ∀ j : Nat, j < 20 → x ≠ nI j := fun _ hj e => h (okK_of hj e)
theorem okP_of {x : Int32} {i : Nat} (h : i < 300) (hx : x = nI (i + 1)) : okP x := by
  subst hx
  exact ⟨nI_nlt (by omega : 1 ≤ i + 1) (by omega), nI_nlt (by omega : i + 1 ≤ 300) (by decide)⟩
theorem no_P {x : Int32} {n : Nat} (hn : n ≤ 300) (h : ¬ okP x) : ∀ i : Nat, i < n → x ≠ nI (i + 1) := fun _ hi e => h (okP_of (by omega) e)
theorem no_Q {x : Int32} {n i : Nat} (hn : n ≤ 300) (hi : i < 300) (hx : x = nI (i + 1)) (hin : n ≤ i) : ∀ j : Nat, j < n → x ≠ nI (j + 1) := by
  intro j hj e
  rw [hx, nI_eq (by omega) (by omega)] at e
  omega
theorem wd_u3 {f : wd_M} {k q : Nat} {e1 e2 e3 : va_E} : wd_up (wd_up (wd_up f k e1) q e2) k e3 = wd_up (wd_up f q e2) k e3 := by
  funext x
  by_cases h : x = k
  · subst h; rw [wd_us, wd_us]
  · rw [wd_un h, wd_un h]
    by_cases hq : x = q
    · subst hq; rw [wd_us, wd_us]
    · rw [wd_un hq, wd_un hq, wd_un h]
theorem rk_keep {f f' : wd_M} {g : Nat → Option Nat} {K : Nat → KT} {n a : Nat} {P : Nat → PT} {mo : Int32} {pa ka : Nat} {md : Int32} {nw : Int64} {lt : Int32} {gp : Nat → Option Nat} (h : rk f g K) (ha : f a = some (eR mo pa ka md nw lt)) (hp : rp f gp n P) (hk : ∀ q : Nat, q ≠ a → (∀ j : Nat, j < n → q ≠ pAd (P j)) → f' q = f q) : rk f' g K := fun j hj => ⟨(h j hj).1, by
  rw [hk _ (wd_ne (h j hj).2 ha (by decide)) (fun i hi => by obtain ⟨-, la, h2, -⟩ := hp.2.1 i hi; exact wd_ne (h j hj).2 h2 (by decide))]
  exact (h j hj).2⟩
theorem ar_keep {f f' : wd_M} {n a b : Nat} {P : Nat → PT} {mo : Int32} {pa ka : Nat} {md : Int32} {nw : Int64} {lt : Int32} {gp : Nat → Option Nat} {x : ClassId × vp_A} (hb : f b = some (.inl x)) (ha : f a = some (eR mo pa ka md nw lt)) (hp : rp f gp n P) (hk : ∀ q : Nat, q ≠ a → (∀ j : Nat, j < n → q ≠ pAd (P j)) → f' q = f q) : f' b = some (.inl x) := by
  rw [hk _ (Ne.symm (wd_neA ha hb)) (fun i hi => by obtain ⟨-, la, h2, -⟩ := hp.2.1 i hi; exact Ne.symm (wd_neA h2 hb))]
  exact hb
theorem tu_keep {f f' : wd_M} {n a q : Nat} {P : Nat → PT} {mo : Int32} {pa ka : Nat} {md : Int32} {nw : Int64} {lt : Int32} {gp : Nat → Option Nat} {pn ck to : Int32} {ea : Option Nat} {te : Int32} (hb : f q = some (eT pn ck to ea te)) (ha : f a = some (eR mo pa ka md nw lt)) (hp : rp f gp n P) (hk : ∀ q : Nat, q ≠ a → (∀ j : Nat, j < n → q ≠ pAd (P j)) → f' q = f q) : f' q = some (eT pn ck to ea te) := by
  rw [hk _ (wd_ne hb ha (by decide)) (fun i hi => by obtain ⟨-, la, h2, -⟩ := hp.2.1 i hi; exact wd_ne hb h2 (by decide))]
  exact hb
theorem gvn_lt {P : Nat → PT} {no o ks : Int32} : ∀ (n b : Nat), gvn P no o ks n = some b → b < n := by
  intro n
  induction n with
  | zero => intro b h; cases h
  | succ n ih =>
    intro b h
    simp only [gvn] at h
    split at h
    · split at h
      · cases h; exact Nat.lt_succ_self n
      · cases h
    · rename_i b' hb'
      split at h
      · cases h; exact Nat.lt_succ_self n
      · cases h; exact Nat.lt_succ_of_lt (ih _ hb')
/-- an entry is written into a turn of a chain -/
def sE (q : Nat) (x : Int32) (L : List TR) : List TR := L.map (fun t => if t.1 = q then (t.1, t.2.1, t.2.2.1, x) else t)
theorem cx_entry {f : wd_M} {no : Int32} {q : Nat} {ck to : Int32} {ea : Option Nat} {te x : Int32} (hq : f q = some (eT no ck to ea te)) : ∀ (L : List TR) (r : Option Nat), cx f no L r → cx (wd_up f q (eT no ck to ea x)) no (sE q x L) r := by
  intro L
  induction L with
  | nil => intro r h; exact h
  | cons t L ih =>
    intro r h
    obtain ⟨h1, er, h2, h3⟩ := h
    by_cases ht : t.1 = q
    · have h4 : (eT no ck to ea te) = eT no t.2.1 t.2.2.1 er t.2.2.2 := by
        rw [ht, hq] at h2
        exact Option.some.inj h2
      have h5 : ck = t.2.1 ∧ to = t.2.2.1 ∧ va_rf ea = va_rf er := by
        simp only [Sum.inr.injEq, Prod.mk.injEq, List.cons.injEq, Value.int.injEq] at h4
        exact ⟨h4.2.2.1, h4.2.2.2.1, h4.2.2.2.2.1⟩
      have h6 : ea = er := by
        have := h5.2.2
        cases ea <;> cases er <;> simp [va_rf] at this ⊢
        exact this
      show cx _ no ((if t.1 = q then (t.1, t.2.1, t.2.2.1, x) else t) :: sE q x L) r
      rw [if_pos ht]
      refine ⟨h1, er, ?_, ih er h3⟩
      show wd_up f q (eT no ck to ea x) t.1 = some (eT no t.2.1 t.2.2.1 er x)
      rw [ht, wd_us, h5.1, h5.2.1, h6]
    · show cx _ no ((if t.1 = q then (t.1, t.2.1, t.2.2.1, x) else t) :: sE q x L) r
      rw [if_neg ht]
      exact ⟨h1, er, by rw [wd_un ht]; exact h2, ih er h3⟩
theorem pst_ad (t : Int64) (P : Nat → PT) (n i : Nat) : pAd (pst t P n i) = pAd (P i) := by
  unfold pst
  split
  · rfl
  · rfl
def mx (x : Int32) : Int32 := if 1 < (if x < 100 then x else 100) then (if x < 100 then x else 100) else 1
theorem ini_keep {f0 f1 f2 f3 : wd_M} {q k b : Nat} {e1 e2 e3 : va_E} {no : Int32} {x : ClassId × vp_A} (h1 : f1 = wd_up f0 q e1) (h2 : f2 = wd_up f1 q e2) (h3 : f3 = wd_up f2 b e3) (g2 : f0 k = some (eK no 0 0 0 none)) (hq : f0 q = none) (hb : f0 b = some (.inl x)) : f3 k = some (eK no 0 0 0 none) := by
  rw [h3, wd_un (wd_neA g2 hb), h2, wd_un (wd_neF g2 hq), h1, wd_un (wd_neF g2 hq)]
  exact g2
