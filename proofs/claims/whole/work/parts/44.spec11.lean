abbrev rc (cel : Nat → Nat → Int32) (p : Nat) : Nat → Int32 := fun j => cf cel (p + j)
theorem stk_bad {c : Nat → Int32} {a n : Nat} (h : ∀ j, j < a → gob j (c j) ≠ 0) (h1 : gob a (c a) = 0) (hn : a < n) : fwc c n = nI a := fwc_bad (fb_none h) h1 hn
theorem stk_end {c : Nat → Int32} {n : Nat} (h : ∀ j, j < n → gob j (c j) ≠ 0) (h1 : ¬ (12 ≤ n ∧ (n - 2) % 5 = 0)) : fwc c n = nI n := fwc_no (fb_none h) h1
theorem g0 {x : Int32} : gob 0 x ≠ 0 ↔ x = nI 101 := by
  unfold gob; rw [if_neg (by decide), if_pos rfl]; exact b01_n0
theorem g1 {x : Int32} : gob 1 x ≠ 0 ↔ dg x := by
  unfold gob dgb; rw [if_neg (by decide), if_neg (by decide), if_pos rfl]; exact b01_n0
theorem g2 {v : Nat} {x : Int32} (hv : v < 6) : gob (2 + 5 * v) x ≠ 0 ↔ x = nI 59 := by
  unfold gob; rw [if_neg (by omega), if_neg (by omega), if_neg (by omega), if_pos (by omega)]; exact b01_n0
theorem g3 {v : Nat} {x : Int32} (hv : v < 6) : gob (3 + 5 * v) x ≠ 0 ↔ isK x := by
  unfold gob; rw [if_neg (by omega), if_neg (by omega), if_neg (by omega), if_neg (by omega), if_pos (by omega)]; exact b01_n0
theorem g4 {v d : Nat} {x : Int32} (hv : v < 6) (h0 : 0 < d) (hd : d < 4) : gob (3 + 5 * v + d) x ≠ 0 ↔ dg x := by
  unfold gob dgb; rw [if_neg (by omega), if_neg (by omega), if_neg (by omega), if_neg (by omega), if_neg (by omega)]; exact b01_n0
theorem g32 {x : Int32} : gob 32 x = 0 := by unfold gob; rw [if_pos (by decide)]
theorem gpg (cel : Nat → Nat → Int32) (p e : Nat) {v d : Nat} (hv : v < 6) (hd : d < 4) : gp cel (p + 3 + 5 * v) e d ↔ (p + (3 + 5 * v + d) < e ∧ gob (3 + 5 * v + d) (rc cel p (3 + 5 * v + d)) ≠ 0) := by
  unfold gp
  rcases Nat.eq_zero_or_pos d with z | z
  · subst z
    rw [if_pos rfl]
    show (p + 3 + 5 * v + 0 < e ∧ isK (cf cel (p + 3 + 5 * v))) ↔ (p + (3 + 5 * v) < e ∧ gob (3 + 5 * v) (cf cel (p + (3 + 5 * v))) ≠ 0)
    rw [g3 hv, show p + (3 + 5 * v) = p + 3 + 5 * v by omega, Nat.add_zero]
  · rw [if_neg (by omega), g4 hv z hd]
    show (p + 3 + 5 * v + d < e ∧ dg (cf cel (p + 3 + 5 * v + d))) ↔ (p + (3 + 5 * v + d) < e ∧ dg (cf cel (p + (3 + 5 * v + d))))
    rw [show p + (3 + 5 * v + d) = p + 3 + 5 * v + d by omega]
