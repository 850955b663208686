section MSP
variable {g : Nat → Nat → Int32} {t : Int64} {du : Nat → Int64} {i : Nat}
theorem rd_e : va_up g 2 (mE t du (g 2) i) 2 (i + 1) = g 2 (i + 1) := by
  rw [show va_up g 2 (mE t du (g 2) i) 2 = mE t du (g 2) i by simp [va_up]]
  exact mE_gt (Nat.lt_succ_self i)
theorem vu_same {k : Nat} {u : Nat → Int32} : va_up g k u k = u := by simp [va_up]
theorem vu_ne {k j : Nat} {u : Nat → Int32} (h : j ≠ k) : va_up g k u j = g j := by simp [va_up, h]
theorem vu_vu {k : Nat} {u w : Nat → Int32} : va_up (va_up g k u) k w = va_up g k w := by
  funext x
  by_cases h : x = k <;> simp [va_up, h]
theorem up_e (c : g 2 (i + 1) = 0 ∧ du (i + 1) < t) : va_up (va_up g 2 (mE t du (g 2) i)) 2 (upd (va_up g 2 (mE t du (g 2) i) 2) (i + 1) 4) = va_up g 2 (mE t du (g 2) (i + 1)) := by
  rw [vu_vu, vu_same, mE_yes c]
theorem up_0 : va_up g 2 (mE t du (g 2) 0) = g := by
  rw [mE_0]
  funext x
  by_cases h : x = 2
  · subst h; simp [va_up]
  · simp [va_up, h]
end MSP
/-- is one of the first k entries of picture i like x -/
def bl (e : Nat → Int32) (i : Nat) (x : Int32) : Nat → Bool
  | 0 => false
  | m + 1 => bl e i x m || decide (e (3 * (i + 1) + m) = x)
theorem nI_le0 {q : Nat} (hq : q < 2 ^ 31) : nI q ≤ 0 ↔ q = 0 := by
  rw [show (0 : Int32) = nI 0 from rfl, nI_leI hq (by decide)]
  omega
theorem nI_is0 {q : Nat} (hq : q < 2 ^ 31) : nI q = 0 ↔ q = 0 := by
  rw [show (0 : Int32) = nI 0 from rfl, nI_eq hq (by decide)]
theorem mbs_le {du : Nat → Int64} {F : Nat → Bool} {n : Nat} : ∀ d : Nat, mbs du F n d ≤ n := by
  intro d
  induction d with
  | zero => exact Nat.zero_le n
  | succ d ih =>
    unfold mbs
    split
    · omega
    · exact ih
theorem mbs_t {du : Nat → Int64} {F : Nat → Bool} {n q k : Nat} (hq : q < n) (hk : k = mbs du F n (n - (q + 1))) (hF : F q = true) (hc : k = 0 ∨ ¬ du k < du (q + 1)) : q + 1 = mbs du F n (n - q) := by
  have e : n - q = (n - (q + 1)) + 1 := by omega
  rw [e]
  unfold mbs
  rw [← hk, show n - (n - (q + 1)) - 1 = q by omega, show n - (n - (q + 1)) = q + 1 by omega, if_pos ⟨hF, hc⟩]
theorem mbs_f {du : Nat → Int64} {F : Nat → Bool} {n q k : Nat} (hq : q < n) (hk : k = mbs du F n (n - (q + 1))) (hF : ¬ (F q = true ∧ (k = 0 ∨ ¬ du k < du (q + 1)))) : k = mbs du F n (n - q) := by
  have e : n - q = (n - (q + 1)) + 1 := by omega
  rw [e]
  unfold mbs
  rw [← hk, show n - (n - (q + 1)) - 1 = q by omega, show n - (n - (q + 1)) = q + 1 by omega, if_neg hF]
def mgB (s : Nat → Int32) (x y : Nat) (sd : Int32) : Nat → Nat
  | 0 => 0
  | i + 1 => if (¬ s (20 * i + x) < 0 ∧ ¬ s (20 * i + y) < 0) ∧ (sd = 1 ∨ s (20 * i + x) = s (20 * i + y)) then mgB s x y sd i + 1 else mgB s x y sd i
theorem hd_le {d : Nat → Int32} {j : Nat} : ∀ n : Nat, hd d j n ≤ n := by
  intro n
  induction n with
  | zero => exact Nat.zero_le 0
  | succ n ih =>
    unfold hd
    split
    · exact Nat.le_refl _
    · omega
theorem hd_lt {d : Nat → Int32} {j n : Nat} (h : n ≤ 300) : hd d j n < 2 ^ 31 := by
  have := hd_le (d := d) (j := j) n
  omega
theorem okN_of {x : Int32} {n : Nat} (hn : n ≤ 300) (h1 : ¬ x < 1) (h2 : ¬ nI n < x) : ∃ i : Nat, i < n ∧ x = nI (i + 1) := by
  have h3 : ¬ 300 < x := fun q => h2 (by
    have h4 : nI n ≤ nI 300 := nI_le hn (by decide)
    rw [Int32.le_iff_toInt_le] at h4
    rw [Int32.lt_iff_toInt_lt] at q ⊢
    have e : (300 : Int32).toInt = (nI 300).toInt := rfl
    omega)
  obtain ⟨i, hi, rfl⟩ := ok300 h1 h3
  refine ⟨i, ?_, rfl⟩
  rw [nI_ltI (by omega) (by omega)] at h2
  omega
