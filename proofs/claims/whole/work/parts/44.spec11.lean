abbrev rc (cel : Nat → Nat → Int32) (p : Nat) : Nat → Int32 := fun j => cf cel (p + j)
theorem stk_bad {c : Nat → Int32} {a n : Nat} (h : ∀ j, j < a → gob j (c j) ≠ 0) (h1 : gob a (c a) = 0) (hn : a < n) : fwc c n = nI a := fwc_bad (fb_none h) h1 hn
theorem stk_end {c : Nat → Int32} {n : Nat} (h : ∀ j, j < n → gob j (c j) ≠ 0) (h1 : ¬ (12 ≤ n ∧ (n - 2) % 5 = 0)) : fwc c n = nI n := fwc_no (fb_none h) h1
