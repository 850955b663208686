abbrev tA (G : Nat → Nat → Int32) (i k : Nat) (x : Int32) : Nat → Nat → Int32 := va_up (va_up G 5 (upd (G 5) (3 * (i + 1) + k) x)) 4 (upd ((va_up G 5 (upd (G 5) (3 * (i + 1) + k) x)) 4) (i + 1) (((va_up G 5 (upd (G 5) (3 * (i + 1) + k) x)) 4 (i + 1)) + 1))
abbrev tB (G : Nat → Nat → Int32) (i k : Nat) (x : Int32) : Nat → Nat → Int32 := va_up (va_up (tA G i k x) 2 (upd ((tA G i k x) 2) (i + 1) (if x ≤ 0 then 3 else 2))) 3 (upd ((va_up (tA G i k x) 2 (upd ((tA G i k x) 2) (i + 1) (if x ≤ 0 then 3 else 2))) 3) (i + 1) x)
abbrev tC (G : Nat → Nat → Int32) (i k : Nat) (x : Int32) : Nat → Nat → Int32 := va_up (tA G i k x) 2 (upd ((tA G i k x) 2) (i + 1) 3)
abbrev pG (g : Nat → Nat → Int32) (t : Int64) (du : Nat → Int64) (n : Nat) : Nat → Nat → Int32 := va_up g 2 (mE t du (g 2) n)
abbrev aG (g : Nat → Nat → Int32) (t : Int64) (du : Nat → Int64) (n i j : Nat) (en : Int32) : Nat → Nat → Int32 := va_up (va_up (pG g t du n) 6 (upd ((pG g t du n) 6) (20 * i + j) 3)) 8 (upd ((va_up (pG g t du n) 6 (upd ((pG g t du n) 6) (20 * i + j) 3)) 8) (20 * i + j) en)
abbrev gG (G : Nat → Nat → Int32) (b1 j : Nat) : Nat → Nat → Int32 := va_up (va_up G 6 (upd (G 6) (20 * b1 + j) 2)) 7 (upd ((va_up G 6 (upd (G 6) (20 * b1 + j) 2)) 7) (20 * b1 + j) ((va_up G 6 (upd (G 6) (20 * b1 + j) 2)) 10 j))
theorem mE_z {t : Int64} {du : Nat → Int64} {e : Nat → Int32} {n p : Nat} (h : mE t du e n p = 0) : e p = 0 := by
  unfold mE at h
  split at h
  · exact absurd h (by decide)
  · exact h
