def cE (i j n q : Nat) : Nat := if i < j then n - 1 - q else q
def cQ (cel : Nat → Nat → Int32) (k o i j n q : Nat) : Nat → Nat → Int32 := va_up cel o (va_cpy (cel k) (cel o) (if i < j then i + n - q else i) (if i < j then j + n - q else j) q)
theorem cE_lt {i j n q : Nat} (h : q < n) : cE i j n q < n := by unfold cE; split <;> omega
theorem cQ_0 (cel : Nat → Nat → Int32) (k o i j n : Nat) : cQ cel k o i j n 0 = cel := by
  unfold cQ
  apply va_up_same
  funext x
  unfold va_cpy
  exact (if_neg (by omega)).symm
theorem cQ_n (cel : Nat → Nat → Int32) (k o i j n : Nat) : cQ cel k o i j n n = va_up cel o (va_cpy (cel k) (cel o) i j n) := by
  unfold cQ
  by_cases h : i < j
  · rw [if_pos h, if_pos h, Nat.add_sub_cancel, Nat.add_sub_cancel]
  · rw [if_neg h, if_neg h]
theorem cQ_rd (cel : Nat → Nat → Int32) {k o i j n q : Nat} (h : q < n) : cQ cel k o i j n q k (i + cE i j n q) = cel k (i + cE i j n q) := by
  unfold cQ
  by_cases e : k = o
  · subst e
    rw [va_up_self]
    unfold va_cpy cE
    by_cases d : i < j
    · rw [if_pos d, if_pos d, if_pos d]; exact if_neg (by omega)
    · rw [if_neg d, if_neg d, if_neg d]; exact if_neg (by omega)
  · rw [va_up_ne _ _ e]
theorem cQ_up (cel : Nat → Nat → Int32) {k o i j n q : Nat} (h : q < n) (hj : j + n ≤ 60) : upd (fun x => cQ cel k o i j n q (x / 60) (x % 60)) (60 * o + j + cE i j n q) (cel k (i + cE i j n q)) = fun x => cQ cel k o i j n (q + 1) (x / 60) (x % 60) := by
  have hE := cE_lt (i := i) (j := j) h
  rw [Nat.add_assoc, upd_cel (cQ cel k o i j n q) _ (show j + cE i j n q < 60 by omega)]
  have e : va_up (cQ cel k o i j n q) o (upd (cQ cel k o i j n q o) (j + cE i j n q) (cel k (i + cE i j n q))) = cQ cel k o i j n (q + 1) := by
    unfold cQ
    rw [va_up_2, va_up_self]
    congr 1
    funext x
    unfold upd va_cpy cE
    by_cases d : i < j
    · simp only [if_pos d]
      by_cases e1 : x = j + (n - 1 - q)
      · rw [if_pos e1, if_pos (show j + n - (q + 1) ≤ x ∧ x < j + n - (q + 1) + (q + 1) by omega)]
        congr 1; omega
      · rw [if_neg e1]
        by_cases e2 : j + n - q ≤ x ∧ x < j + n - q + q
        · rw [if_pos e2, if_pos (show j + n - (q + 1) ≤ x ∧ x < j + n - (q + 1) + (q + 1) by omega)]
          congr 1; omega
        · rw [if_neg e2, if_neg (show ¬ (j + n - (q + 1) ≤ x ∧ x < j + n - (q + 1) + (q + 1)) by omega)]
    · simp only [if_neg d]
      by_cases e1 : x = j + q
      · rw [if_pos e1, if_pos (show j ≤ x ∧ x < j + (q + 1) by omega)]
        congr 1; omega
      · rw [if_neg e1]
        by_cases e2 : j ≤ x ∧ x < j + q
        · rw [if_pos e2, if_pos (show j ≤ x ∧ x < j + (q + 1) by omega)]
        · rw [if_neg e2, if_neg (show ¬ (j ≤ x ∧ x < j + (q + 1)) by omega)]
  rw [e]
