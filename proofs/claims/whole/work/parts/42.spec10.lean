abbrev isK (x : Int32) : Prop := x = nI 112 ∨ x = nI 108 ∨ x = nI 100
def gp (cel : Nat → Nat → Int32) (p e d : Nat) : Prop := p + d < e ∧ (if d = 0 then isK (cf cel p) else dg (cf cel (p + d)))
def rpQ (cel : Nat → Nat → Int32) (p e rn : Nat) (rk rh : Nat → Int32) (r : Int32) (a : Nat) (rk1 rh1 : Nat → Int32) : Prop :=
  ((a = 4 ∧ r = nI 1) ∨ (a < 4 ∧ ¬ gp cel p e a ∧ r = nI 0)) ∧ (∀ d, d < a → gp cel p e d) ∧ (∀ j, j < rn → rk1 j = rk j) ∧ (∀ j, j < 3 * rn → rh1 j = rh j) ∧ (a = 4 → rk1 rn = nI (kl (cf cel p)) ∧ ∀ d, d < 3 → rh1 (3 * rn + d) = nI (dv (cf cel (p + 1 + d))))
theorem gp_d {cel : Nat → Nat → Int32} {p e d : Nat} (h : dgC cel (p + 1 + d) e) : gp cel p e (1 + d) := ⟨by have := h.1; omega, by rw [if_neg (by omega), ← Nat.add_assoc]; exact h.2⟩
theorem gp_n {cel : Nat → Nat → Int32} {p e d : Nat} (h : ¬ dgC cel (p + 1 + d) e) : ¬ gp cel p e (1 + d) := fun z => h ⟨by have := z.1; omega, by have := z.2; rw [if_neg (by omega), ← Nat.add_assoc] at this; exact this⟩
def kL (x : Int32) : Int32 := if x = nI 112 then nI 0 else if x = nI 108 then nI 1 else if x = nI 100 then nI 2 else -9
theorem kL_y {x : Int32} (h : isK x) : kL x = nI (kl x) := by
  rcases h with rfl | rfl | rfl <;> decide
theorem kL_9 {x : Int32} (h : kL x = -9) : ¬ isK x := fun z => by
  rcases z with rfl | rfl | rfl <;> exact absurd h (by decide)
theorem kL_n9 {x : Int32} (h : ¬ kL x = -9) : isK x := by
  unfold kL at h
  by_cases a : x = nI 112
  · exact Or.inl a
  · rw [if_neg a] at h
    by_cases b : x = nI 108
    · exact Or.inr (Or.inl b)
    · rw [if_neg b] at h
      by_cases c : x = nI 100
      · exact Or.inr (Or.inr c)
      · rw [if_neg c] at h; exact absurd rfl h
def rpR (cel : Nat → Nat → Int32) (p e rn : Nat) (rk rh : Nat → Int32) (a : Nat) (rk1 rh1 : Nat → Int32) : Prop := (∀ d, d < a → gp cel p e d) ∧ (∀ j, j < rn → rk1 j = rk j) ∧ (∀ j, j < 3 * rn → rh1 j = rh j) ∧ (a = 4 → rk1 rn = nI (kl (cf cel p)) ∧ ∀ d, d < 3 → rh1 (3 * rn + d) = nI (dv (cf cel (p + 1 + d))))
theorem rpQ_or {cel : Nat → Nat → Int32} {p e rn : Nat} {rk rh : Nat → Int32} {r : Int32} {a : Nat} {rk1 rh1 : Nat → Int32} (h : rpQ cel p e rn rk rh r a rk1 rh1) : (a = 4 ∧ rpR cel p e rn rk rh a rk1 rh1 ∧ r = nI 1) ∨ ((a < 4 ∧ ¬ gp cel p e a) ∧ rpR cel p e rn rk rh a rk1 rh1 ∧ r = nI 0) := by
  obtain ⟨h1, h2⟩ := h
  rcases h1 with h1 | h1
  · exact Or.inl ⟨h1.1, h2, h1.2⟩
  · exact Or.inr ⟨⟨h1.1, h1.2.1⟩, h2, h1.2.2⟩
