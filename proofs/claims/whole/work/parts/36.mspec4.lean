def my (x : Int32) : Int32 := if 1 ≤ x then (if x ≤ 100 then x else 100) else 1
theorem mono_inj {AD : Nat → Nat} (h : ∀ i : Nat, i < 11 → AD i < AD (i + 1)) : ∀ i j : Nat, i ≤ 11 → j ≤ 11 → AD i = AD j → i = j := by
  have key : ∀ d i : Nat, i + d + 1 ≤ 11 → AD i < AD (i + d + 1) := by
    intro d
    induction d with
    | zero => intro i hi; exact h i (by omega)
    | succ d ih => intro i hi; exact Nat.lt_trans (ih i (by omega)) (h (i + d + 1) (by omega))
  intro i j hi hj e
  rcases Nat.lt_trichotomy i j with q | q | q
  · have := key (j - i - 1) i (by omega)
    rw [show i + (j - i - 1) + 1 = j by omega] at this
    omega
  · exact q
  · have := key (i - j - 1) j (by omega)
    rw [show j + (i - j - 1) + 1 = i by omega] at this
    omega
