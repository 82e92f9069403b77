/-! more numbers -/
theorem up_le {f : Nat → Nat} {c k v : Nat} (h : ∀ j, f j ≤ c) (hv : v ≤ c) : ∀ j, va_up f k v j ≤ c := fun j => by
  unfold va_up
  split
  · exact hv
  · exact h j
theorem lshl1 : ∀ f, f < 33 → lN 1 <<< ((nI f).toInt64 &&& 63) = lN (2 ^ f) := by decide +kernel
theorem sw_out3 {x : Int32} (h0 : ¬ x = nI 0) (h1 : ¬ x = nI 1) (h2 : ¬ x = nI 2) : x.toInt < 0 ∨ 2 < x.toInt := by
  rcases Int.lt_or_le x.toInt 0 with c | c
  · exact Or.inl c
  · refine Or.inr (Int.not_le.mp fun z => ?_)
    rcases (show x.toInt = 0 ∨ x.toInt = 1 ∨ x.toInt = 2 by omega) with e | e | e
    · exact h0 (Int32.toInt_inj.mp (by rw [e]; decide))
    · exact h1 (Int32.toInt_inj.mp (by rw [e]; decide))
    · exact h2 (Int32.toInt_inj.mp (by rw [e]; decide))
theorem sw_out4 {x : Int32} (h0 : ¬ x = nI 0) (h1 : ¬ x = nI 1) (h2 : ¬ x = nI 2) (h3 : ¬ x = nI 3) : x.toInt < 0 ∨ 3 < x.toInt := by
  rcases sw_out3 h0 h1 h2 with c | c
  · exact Or.inl c
  · refine Or.inr (Int.not_le.mp fun z => ?_)
    exact h3 (Int32.toInt_inj.mp (by rw [show x.toInt = 3 by omega]; decide))
def fRI (la z : Int32) : Nat := if la = -1 then 1 else if la ≠ z then 2 else 0
def fCI (la : Int32) (le : Nat) (z i n : Int32) : Nat := if fRI la z ≠ 0 then fRI la z else if isB le i n then 0 else 3
def fTI (la : Int32) (le : Nat) (z i n : Int32) : Nat := if fRI la z ≠ 0 then fRI la z else if n < 0 then 4 else if isB le i n then 0 else 3
theorem fRI_le (la z : Int32) : fRI la z ≤ 2 := by unfold fRI; split <;> (try split) <;> omega
theorem fCI_le (la : Int32) (le : Nat) (z i n : Int32) : fCI la le z i n ≤ 3 := by
  have := fRI_le la z
  unfold fCI; split <;> (try split) <;> omega
theorem fTI_le (la : Int32) (le : Nat) (z i n : Int32) : fTI la le z i n ≤ 4 := by
  have := fRI_le la z
  unfold fTI
  split
  · omega
  · split
    · omega
    · split <;> omega
theorem fRI_eq {x s : Nat} (hx : x ≤ 3) (hs : s < 3) : fRI (lC x) (nI s) = fR x s := by
  unfold fRI fR
  by_cases h : x = 3
  · rw [if_pos (lC_3 h), if_pos h]
  · rw [if_neg (fun z => h ((lC_m1 hx).mp z)), if_neg h]
    by_cases h2 : x = s
    · rw [if_neg (fun z => z ((lC_s hx h hs).mpr h2)), if_neg (fun z => z h2)]
    · rw [if_pos (fun z => h2 ((lC_s hx h hs).mp z)), if_pos h2]
theorem fCI_eq {lane ml : Nat → Nat} {k s : Nat} (hx : lane k ≤ 3) (hs : s < 3) (i n : Int32) : fCI (lC (lane k)) (ln lane ml k) (nI s) i n = fC (lane k) (ml k) s i n := by
  unfold fCI fC
  rw [fRI_eq hx hs]
  by_cases h : fR (lane k) s ≠ 0
  · rw [if_pos h, if_pos h]
  · rw [if_neg h, if_neg h, ln_n (fR_0 (Decidable.not_not.mp h)).1]
theorem fTI_eq {lane ml : Nat → Nat} {k s : Nat} (hx : lane k ≤ 3) (hs : s < 3) (i n : Int32) : fTI (lC (lane k)) (ln lane ml k) (nI s) i n = fT (lane k) (ml k) s i n := by
  unfold fTI fT
  rw [fRI_eq hx hs]
  by_cases h : fR (lane k) s ≠ 0
  · rw [if_pos h, if_pos h]
  · rw [if_neg h, if_neg h, ln_n (fR_0 (Decidable.not_not.mp h)).1]
theorem st_trim_le {np : Nat} {hg : Nat → Nat} (h : ∀ j, hg j ≤ 9) (p k v : Int32) : ∀ j, st_trim np hg p k v j ≤ 9 := by
  unfold st_trim
  split
  · split
    · rename_i h1 h2
      obtain ⟨j, h3, rfl⟩ := nI_btl (n := 10) (by decide) h2.2.1 h2.2.2
      exact up_le h (by rw [tN_nI (by omega)]; omega)
    · exact h
  · exact h
