/-! THE REFERENCE: its cells, rows for its arrays -/
abbrev eM (AD : Nat → Nat) (th mo ct : Int32) (nw : Int64) (lt : Int32) : va_E := .inr (4, [.int th, .int mo, .int ct, .ref (AD 0), .ref (AD 1), .ref (AD 2), .ref (AD 3), .ref (AD 4), .ref (AD 5), .ref (AD 6), .ref (AD 7), .ref (AD 8), .ref (AD 9), .ref (AD 10), .ref (AD 11), .long nw, .int lt])
def mlen : Nat → Nat
  | 5 => 903
  | 6 => 6020
  | 7 => 6020
  | 8 => 6020
  | 9 => 20
  | 10 => 20
  | 11 => 20
  | _ => 301
def mty : Nat → Nat
  | 9 => 4
  | _ => 2
theorem mlen_lt (k : Nat) : mlen k < 2 ^ 31 := by
  unfold mlen
  split <;> decide
def rM (f : wd_M) (ca : Nat → ClassId) (b : Nat) (AD : Nat → Nat) (th mo : Int32) (n : Nat) (nw : Int64) (lt : Int32) (du : Nat → Int64) (g : Nat → Nat → Int32) : Prop :=
  f b = some (eM AD th mo (nI n) nw lt) ∧ f (AD 0) = some (.inl (ca 3, 301, .inr (.inl du))) ∧ (∀ k : Nat, 1 ≤ k → k ≤ 11 → f (AD k) = some (.inl (ca (mty k), mlen k, .inl (g k)))) ∧ (∀ i j : Nat, i ≤ 11 → j ≤ 11 → AD i = AD j → i = j) ∧ n ≤ 300
section RMS
variable {f f1 : wd_M} {ca : Nat → ClassId} {b : Nat} {AD : Nat → Nat} {th mo th' mo' : Int32} {n n' : Nat} {nw nw' : Int64} {lt lt' : Int32} {du : Nat → Int64} {g : Nat → Nat → Int32}
theorem rM_obj (h : rM f ca b AD th mo n nw lt du g) (e : f1 = wd_up f b (eM AD th' mo' (nI n') nw' lt')) (hn : n' ≤ 300) : rM f1 ca b AD th' mo' n' nw' lt' du g := by
  subst e
  refine ⟨wd_us, ?_, fun k h1 h2 => ?_, h.2.2.2.1, hn⟩
  · rw [wd_un (Ne.symm (wd_neA h.1 h.2.1))]
    exact h.2.1
  · rw [wd_un (Ne.symm (wd_neA h.1 (h.2.2.1 k h1 h2)))]
    exact h.2.2.1 k h1 h2
theorem rM_set (h : rM f ca b AD th mo n nw lt du g) {k : Nat} {u : Nat → Int32} (h1 : 1 ≤ k) (h2 : k ≤ 11) (e : f1 = wd_up f (AD k) (.inl (ca (mty k), mlen k, .inl u))) : rM f1 ca b AD th mo n nw lt du (va_up g k u) := by
  subst e
  refine ⟨?_, ?_, fun j g1 g2 => ?_, h.2.2.2.1, h.2.2.2.2⟩
  · rw [wd_un (wd_neA h.1 (h.2.2.1 k h1 h2))]
    exact h.1
  · rw [wd_un (fun q => by have := h.2.2.2.1 0 k (by omega) h2 q; omega)]
    exact h.2.1
  · by_cases hj : j = k
    · subst hj
      rw [wd_us, show va_up g j u j = u by simp [va_up]]
    · rw [wd_un (fun q => hj (h.2.2.2.1 j k g2 h2 q)), show va_up g k u j = g j by simp [va_up, hj]]
      exact h.2.2.1 j g1 g2
theorem rM_du (h : rM f ca b AD th mo n nw lt du g) {u : Nat → Int64} (e : f1 = wd_up f (AD 0) (.inl (ca 3, 301, .inr (.inl u)))) : rM f1 ca b AD th mo n nw lt u g := by
  subst e
  refine ⟨?_, wd_us, fun j g1 g2 => ?_, h.2.2.2.1, h.2.2.2.2⟩
  · rw [wd_un (wd_neA h.1 h.2.1)]
    exact h.1
  · rw [wd_un (fun q => by have := h.2.2.2.1 j 0 g2 (by omega) q; omega)]
    exact h.2.2.1 j g1 g2
end RMS
section RMR
variable {p : Program} {l : Launch} {e : Env} {R : Room} {s : State} {m : MethodId} {args : Array Value} {below : List Frame} {meth : Method} {c : Code} {H : Heap} {locs : List Loc} {cells slots : Nat} {Q : State → Prop}
variable {cc : ByteArray} {pc nL : Nat} {ls : Array Slot} {rest : List Value} {D : va_G} {A : Nat → Prop} {H0 : Heap} {f : wd_M} {own : String} {Ts : List Cond} {ca : Nat → ClassId} {b : Nat} {AD : Nat → Nat} {th mo : Int32} {n : Nat} {nw : Int64} {lt : Int32} {du : Nat → Int64} {g : Nat → Nat → Int32}
theorem m_ld (X : CallFix p m c cc nL s args Ts own) (hK : va_K D classes (ty ca) s) (hw : wd_I D classes A H0 f H locs) (hm : rM f ca b AD th mo n nw lt du g) {k j : Nat} (h1 : 1 ≤ k) (h2 : k ≤ 11) (h3 : mty k = 2) (hj : j < mlen k) (hdg : decode cc pc = .ok (.iaload, 1))
    (kk : W p l e R s m args below meth c H locs cells slots Q (F0 m (pc + 1) ls (.int (g k j) :: rest))) : W p l e R s m args below meth c H locs cells slots Q (F0 m pc ls (.int (nI j) :: .ref (AD k) :: rest)) := by
  have ha := hm.2.2.1 k h1 h2
  rw [h3] at ha
  exact wd_iald X hK hw ha 2 rfl (vp_in_nI hj (mlen_lt k)) hdg (by rw [nI_clamp (Nat.lt_trans hj (mlen_lt k))]; exact kk)
theorem m_ldz (X : CallFix p m c cc nL s args Ts own) (hK : va_K D classes (ty ca) s) (hw : wd_I D classes A H0 f H locs) (hm : rM f ca b AD th mo n nw lt du g) {j : Nat} (hj : j < 20) (hdg : decode cc pc = .ok (.baload, 1))
    (kk : W p l e R s m args below meth c H locs cells slots Q (F0 m (pc + 1) ls (.int (g 9 j) :: rest))) : W p l e R s m args below meth c H locs cells slots Q (F0 m pc ls (.int (nI j) :: .ref (AD 9) :: rest)) := by
  have ha := hm.2.2.1 9 (by decide) (by decide)
  exact wd_zald X hK hw ha 4 rfl (vp_in_nI hj (by decide)) hdg (by rw [nI_clamp (Nat.lt_trans hj (by decide))]; exact kk)
theorem m_ldl (X : CallFix p m c cc nL s args Ts own) (hK : va_K D classes (ty ca) s) (hw : wd_I D classes A H0 f H locs) (hm : rM f ca b AD th mo n nw lt du g) {j : Nat} (hj : j < 301) (hdg : decode cc pc = .ok (.laload, 1))
    (kk : W p l e R s m args below meth c H locs cells slots Q (F0 m (pc + 1) ls (.long (du j) :: rest))) : W p l e R s m args below meth c H locs cells slots Q (F0 m pc ls (.int (nI j) :: .ref (AD 0) :: rest)) :=
  wd_lald X hK hw hm.2.1 3 rfl (vp_in_nI hj (by decide)) hdg (by rw [nI_clamp (Nat.lt_trans hj (by decide))]; exact kk)
theorem m_st (X : CallFix p m c cc nL s args Ts own) (hK : va_K D classes (ty ca) s) (hw : wd_I D classes A H0 f H locs) (hm : rM f ca b AD th mo n nw lt du g) {k j : Nat} {x : Int32} (h1 : 1 ≤ k) (h2 : k ≤ 11) (h3 : mty k = 2) (hj : j < mlen k) (hdg : decode cc pc = .ok (.iastore, 1))
    (kk : ∀ (f1 : wd_M) (H1 : Heap) (locs1 : List Loc), rM f1 ca b AD th mo n nw lt du (va_up g k (upd (g k) j x)) → wd_I D classes A H0 f1 H1 locs1 → W p l e R s m args below meth c H1 locs1 cells slots Q (F0 m (pc + 1) ls rest)) : W p l e R s m args below meth c H locs cells slots Q (F0 m pc ls (.int x :: .int (nI j) :: .ref (AD k) :: rest)) := by
  have ha := hm.2.2.1 k h1 h2
  have hs := fun (f1 : wd_M) (u : Nat → Int32) => rM_set (f1 := f1) (u := u) hm h1 h2
  rw [h3] at ha hs
  refine wd_iast X hK hw ha 2 rfl (vp_in_nI hj (mlen_lt k)) hdg (fun f1 H1 locs1 e1 hw1 => ?_)
  rw [nI_clamp (Nat.lt_trans hj (mlen_lt k))] at e1
  exact kk f1 H1 locs1 (hs f1 _ e1) hw1
theorem m_stl (X : CallFix p m c cc nL s args Ts own) (hK : va_K D classes (ty ca) s) (hw : wd_I D classes A H0 f H locs) (hm : rM f ca b AD th mo n nw lt du g) {j : Nat} {x : Int64} (hj : j < 301) (hdg : decode cc pc = .ok (.lastore, 1))
    (kk : ∀ (f1 : wd_M) (H1 : Heap) (locs1 : List Loc), rM f1 ca b AD th mo n nw lt (vp_updL du j x) g → wd_I D classes A H0 f1 H1 locs1 → W p l e R s m args below meth c H1 locs1 cells slots Q (F0 m (pc + 1) ls rest)) : W p l e R s m args below meth c H locs cells slots Q (F0 m pc ls (.long x :: .int (nI j) :: .ref (AD 0) :: rest)) := by
  refine wd_last X hK hw hm.2.1 3 rfl (vp_in_nI hj (by decide)) hdg (fun f1 H1 locs1 e1 hw1 => ?_)
  rw [nI_clamp (Nat.lt_trans hj (by decide))] at e1
  exact kk f1 H1 locs1 (rM_du hm e1) hw1
theorem m_stz (X : CallFix p m c cc nL s args Ts own) (hK : va_K D classes (ty ca) s) (hw : wd_I D classes A H0 f H locs) (hm : rM f ca b AD th mo n nw lt du g) {j : Nat} {x : Int32} (hx : vp_nar .boolean x = x) (hj : j < 20) (hdg : decode cc pc = .ok (.bastore, 1))
    (kk : ∀ (f1 : wd_M) (H1 : Heap) (locs1 : List Loc), rM f1 ca b AD th mo n nw lt du (va_up g 9 (upd (g 9) j x)) → wd_I D classes A H0 f1 H1 locs1 → W p l e R s m args below meth c H1 locs1 cells slots Q (F0 m (pc + 1) ls rest)) : W p l e R s m args below meth c H locs cells slots Q (F0 m pc ls (.int x :: .int (nI j) :: .ref (AD 9) :: rest)) := by
  have ha := hm.2.2.1 9 (by decide) (by decide)
  refine wd_zast X hK hw ha 4 rfl (vp_in_nI hj (by decide)) hdg (fun f1 H1 locs1 e1 hw1 => ?_)
  rw [nI_clamp (Nat.lt_trans hj (by decide)), hx] at e1
  exact kk f1 H1 locs1 (rM_set hm (by decide) (by decide) e1) hw1
end RMR
theorem ix20 (i c : Nat) : ((20 * nI (i + 1)) + nI c) - 20 = nI (20 * i + c) := by
  have e : (20 : Int32) = nI 20 := rfl
  rw [e, pk_mul, nI_add, pk_sub (by omega)]
  congr 1
  omega
theorem ix3 (p : Nat) : 3 * nI p = nI (3 * p) := by
  have e : (3 : Int32) = nI 3 := rfl
  rw [e, pk_mul]
theorem ix31 (p : Nat) : 3 * nI p + 1 = nI (3 * p + 1) := by rw [ix3, nI_succ]
theorem ix3k (p k : Nat) : 3 * nI p + nI k = nI (3 * p + k) := by rw [ix3, nI_add]
/-- what the reference's methods answer -/
def oW (e : Nat → Int32) : Nat → Nat
  | 0 => 0
  | i + 1 => if e (i + 1) = 0 then oW e i + 1 else oW e i
def hd (d : Nat → Int32) (j : Nat) : Nat → Nat
  | 0 => 0
  | i + 1 => if d (20 * i + j) = 2 then i + 1 else hd d j i
def hc (d : Nat → Int32) (i : Nat) : Nat → Nat
  | 0 => 0
  | m + 1 => if d (20 * i + m) = 2 then hc d i m + 1 else hc d i m
abbrev dff (a e : Nat → Int32) (i : Nat) : Prop := ¬ a (i + 1) ≤ 1 ∧ ¬ e (3 * (i + 1)) = e (3 * (i + 1) + 1)
abbrev tkn (a e d : Nat → Int32) (i : Nat) : Prop := ¬ (a (i + 1) + nI (hc d i 20)) < (if dff a e i then 3 else 2)
def aln (d w : Nat → Int32) (o : Int32) (i : Nat) : Nat → Bool
  | 0 => true
  | m + 1 => aln d w o i m && !(!decide (d (20 * i + m) ≤ 1) && decide (w (20 * i + m) = o))
def zi (b : Bool) : Int32 := if b = true then 1 else 0
abbrev mfr (g : Nat → Nat → Int32) (i j : Nat) : Prop := (((g 2 (i + 1) = 0 ∧ ¬ tkn (g 4) (g 5) (g 6) i) ∧ ¬ g 11 j < g 1 (i + 1)) ∧ g 6 (20 * i + j) = 0) ∧ (aln (g 6) (g 7) (g 10 j) i 20 = true ∨ dff (g 4) (g 5) i)
/-- the best from place i on, as the reference looks: from the last one down -/
def mbs (du : Nat → Int64) (F : Nat → Bool) (n : Nat) : Nat → Nat
  | 0 => 0
  | d + 1 => if F (n - d - 1) = true ∧ (mbs du F n d = 0 ∨ ¬ du (mbs du F n d) < du (n - d)) then n - d else mbs du F n d
def mC (t : Int64) (du : Nat → Int64) (e : Nat → Int32) : Nat → Nat
  | 0 => 0
  | i + 1 => if e (i + 1) = 0 ∧ du (i + 1) < t then mC t du e i + 1 else mC t du e i
def mE (t : Int64) (du : Nat → Int64) (e : Nat → Int32) (i : Nat) : Nat → Int32 := fun p => if (1 ≤ p ∧ p ≤ i) ∧ (e p = 0 ∧ du p < t) then 4 else e p
theorem mE_0 {t : Int64} {du : Nat → Int64} {e : Nat → Int32} : mE t du e 0 = e := by
  funext p
  exact if_neg (fun q => by omega)
theorem mE_gt {t : Int64} {du : Nat → Int64} {e : Nat → Int32} {i p : Nat} (h : i < p) : mE t du e i p = e p := if_neg (fun q => by omega)
theorem mE_no {t : Int64} {du : Nat → Int64} {e : Nat → Int32} {i : Nat} (h : ¬ (e (i + 1) = 0 ∧ du (i + 1) < t)) : mE t du e (i + 1) = mE t du e i := by
  funext p
  by_cases hp : p = i + 1
  · subst hp
    rw [mE_gt (Nat.lt_succ_self i)]
    exact if_neg (fun q => h q.2)
  · unfold mE
    by_cases h1 : (1 ≤ p ∧ p ≤ i) ∧ (e p = 0 ∧ du p < t)
    · rw [if_pos h1, if_pos ⟨⟨h1.1.1, by omega⟩, h1.2⟩]
    · rw [if_neg h1, if_neg (fun q => h1 ⟨⟨q.1.1, by omega⟩, q.2⟩)]
theorem mE_yes {t : Int64} {du : Nat → Int64} {e : Nat → Int32} {i : Nat} (h : e (i + 1) = 0 ∧ du (i + 1) < t) : mE t du e (i + 1) = upd (mE t du e i) (i + 1) 4 := by
  funext p
  by_cases hp : p = i + 1
  · subst hp
    rw [pk_us]
    exact if_pos ⟨⟨by omega, Nat.le_refl _⟩, h⟩
  · rw [pk_un hp]
    unfold mE
    by_cases h1 : (1 ≤ p ∧ p ≤ i) ∧ (e p = 0 ∧ du p < t)
    · rw [if_pos h1, if_pos ⟨⟨h1.1.1, by omega⟩, h1.2⟩]
    · rw [if_neg h1, if_neg (fun q => h1 ⟨⟨q.1.1, by omega⟩, q.2⟩)]
theorem i64 {x y : Int32} : x.toInt64 < y.toInt64 ↔ x < y := by
  rw [Int64.lt_iff_toInt_lt, Int32.lt_iff_toInt_lt, Int32.toInt_toInt64, Int32.toInt_toInt64]
theorem pic_iff {x y : Int32} : (¬ x.toInt64 < 1 ∧ ¬ y.toInt64 < x.toInt64) ↔ (¬ x < 1 ∧ ¬ y < x) := by
  rw [i64, show (1 : Int64) = (1 : Int32).toInt64 from rfl, i64]
theorem clk_iff {x : Int32} : (¬ x.toInt64 < 0 ∧ ¬ 19 < x.toInt64) ↔ okK x := by
  rw [show (0 : Int64) = (0 : Int32).toInt64 from rfl, show (19 : Int64) = (19 : Int32).toInt64 from rfl, i64, i64]
  have e1 : (19 : Int32).toInt = 19 := by decide
  have e2 : (20 : Int32).toInt = 20 := by decide
  unfold okK
  rw [Int32.lt_iff_toInt_lt (x := 19), Int32.le_iff_toInt_le, e1, e2]
  constructor
  · rintro ⟨h1, h2⟩; exact ⟨h1, by omega⟩
  · rintro ⟨h1, h2⟩; exact ⟨h1, by omega⟩
theorem wi3_iff {x : Int32} : (¬ x.toInt64 < 0 ∧ ¬ 3 < x.toInt64) ↔ wi x 3 := by
  rw [show (0 : Int64) = (0 : Int32).toInt64 from rfl, show (3 : Int64) = (3 : Int32).toInt64 from rfl, i64, i64]
theorem wi4_iff {x : Int32} : (¬ x.toInt64 < 0 ∧ ¬ 4 < x.toInt64) ↔ wi x 4 := by
  rw [show (0 : Int64) = (0 : Int32).toInt64 from rfl, show (4 : Int64) = (4 : Int32).toInt64 from rfl, i64, i64]
theorem wi9_iff {x : Int32} : (¬ x.toInt64 < 0 ∧ ¬ 9999 < x.toInt64) ↔ wi x 9999 := by
  rw [show (0 : Int64) = (0 : Int32).toInt64 from rfl, show (9999 : Int64) = (9999 : Int32).toInt64 from rfl, i64, i64]
theorem cmp_ngt {x y : Int64} (h : ¬ 0 < lg_cmp x y) : ¬ y < x := fun q => h ((lg_cmp_gt x y).mpr q)
theorem cmp_gt {x y : Int64} (h : 0 < lg_cmp x y) : y < x := (lg_cmp_gt x y).mp h
abbrev mst (g : Nat → Nat → Int32) (i : Nat) : Int32 := if g 2 (i + 1) = 0 then (if tkn (g 4) (g 5) (g 6) i then 1 else 0) else g 2 (i + 1)
