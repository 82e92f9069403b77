theorem sM_9 {x : Nat} (hx : x ≤ 3) : sM x = -9 ↔ x = 3 := by
  constructor
  · intro h
    by_cases z : x = 3
    · exact z
    · rw [sM, if_neg z] at h; exact absurd h (nI_ne9 (by omega))
  · intro h; rw [sM, if_pos h]
theorem sM_n {x : Nat} (h : x ≠ 3) : sM x = nI x := if_neg h
theorem sM_z {x z : Nat} (hx : x ≤ 3) (h3 : x ≠ 3) (hz : z < 3) : sM x = nI z ↔ x = z := by
  rw [sM_n h3]; exact nI_eq (by omega) (by omega)
theorem upd_sM (lane : Nat → Nat) {k v : Nat} (hv : v ≠ 3) : upd (fun j => sM (lane j)) k (nI v) = fun j => sM (va_up lane k v j) := by
  funext j
  unfold upd va_up
  by_cases h : j = k
  · rw [if_pos h, if_pos h, sM_n hv]
  · rw [if_neg h, if_neg h]
theorem upd_sM3 (lane : Nat → Nat) (k : Nat) : upd (fun j => sM (lane j)) k (-9) = fun j => sM (va_up lane k 3 j) := by
  funext j
  unfold upd va_up
  by_cases h : j = k
  · rw [if_pos h, if_pos h]; rfl
  · rw [if_neg h, if_neg h]
theorem upd_cel (cel : Nat → Nat → Int32) {k i : Nat} (v : Int32) (hi : i < 60) : upd (fun j => cel (j / 60) (j % 60)) (60 * k + i) v = fun j => (va_up cel k (upd (cel k) i v)) (j / 60) (j % 60) := by
  funext j
  unfold upd va_up
  by_cases h : j = 60 * k + i
  · rw [if_pos h, if_pos (by omega)]
    exact (if_pos (by omega)).symm
  · rw [if_neg h]
    by_cases h2 : j / 60 = k
    · show cel (j / 60) (j % 60) = _
      rw [if_pos h2, h2]
      exact (if_neg (by omega)).symm
    · show cel (j / 60) (j % 60) = _
      rw [if_neg h2]
theorem fT_cast {x le z : Nat} {i n : Int32} (h3 : x ≠ 3) (h : x ≠ z) : nI 2 = nI (fT x le z i n) := by
  have e : fR x z = 2 := by rw [fR, if_neg h3, if_pos h]
  rw [fT, e]; rfl
theorem fT_null {x le z : Nat} {i n : Int32} (h3 : x = 3) : nI 1 = nI (fT x le z i n) := by
  have e : fR x z = 1 := by rw [fR, if_pos h3]
  rw [fT, e]; rfl
theorem fR_z {x z : Nat} (h3 : x ≠ 3) (h : x = z) : ¬ fR x z ≠ 0 := fun w => w (by rw [fR, if_neg h3, if_neg (fun y => y h)])
theorem fT_size {x le z : Nat} {i n : Int32} (h3 : x ≠ 3) (h : x = z) (hn : ¬ 0 ≤ n) : nI 4 = nI (fT x le z i n) := by
  rw [fT, if_neg (fR_z h3 h), if_pos (Int32.not_le.mp hn)]
theorem fT_no {x le z : Nat} {i n : Int32} (h3 : x ≠ 3) (h : x = z) (hn : 0 ≤ n) (hb : ¬ isB le i n) : nI 3 = nI (fT x le z i n) := by
  rw [fT, if_neg (fR_z h3 h), if_neg (Int32.not_lt.mpr hn), if_neg hb]
theorem fT_yes {x le z : Nat} {i n : Int32} (h3 : x ≠ 3) (h : x = z) (hn : 0 ≤ n) (hb : isB le i n) : nI 0 = nI (fT x le z i n) := by
  rw [fT, if_neg (fR_z h3 h), if_neg (Int32.not_lt.mpr hn), if_pos hb]
theorem fT_fC {x le z : Nat} {i n : Int32} (hn : ¬ n < 0) : fT x le z i n = fC x le z i n := by
  unfold fT fC
  by_cases h : fR x z ≠ 0
  · rw [if_pos h, if_pos h]
  · rw [if_neg h, if_neg h, if_neg hn]
theorem inM {M : Nat} (hM : M ≤ 60) {i : Int32} : (nI 0 ≤ i ∧ i ≤ nI M - nI 1) ↔ isP M i := by
  rcases Nat.eq_zero_or_pos M with z | z
  · subst z
    constructor
    · intro h
      exfalso
      have h1 := h.1
      have h2 := h.2
      rw [Int32.le_iff_toInt_le] at h1 h2
      have e1 : (nI 0).toInt = 0 := by decide
      have e2 : (nI 0 - nI 1).toInt = -1 := by decide
      omega
    · intro h; exact absurd (show ¬ i < 0 from h.1) (fun w => w (by rw [← nI_0]; exact h.2))
  · rw [pk_sub (by omega)]
    constructor
    · intro h
      obtain ⟨j, hj, rfl⟩ := nI_btw (n := M - 1) (by omega) (by rw [nI_0] at h; exact Int32.not_lt.mpr h.1) h.2
      exact isP_of (by omega) (by omega)
    · intro h
      obtain ⟨j, hj, rfl⟩ := nI_btl (n := M) (by omega) h.1 h.2
      exact ⟨nI_le (by omega) (by omega), nI_le (by omega) (by omega)⟩
theorem inM' {M : Nat} (hM : M ≤ 60) {i : Int32} (h : isP M i) : ∃ j, j < M ∧ i = nI j := by
  obtain ⟨j, hj, e⟩ := nI_btl (n := M) (by omega) h.1 h.2
  exact ⟨j, hj, e⟩
theorem lcmp0 {z : Nat} (h : z < 2 ^ 31) : lg_cmp (lN z) (lN 0) = 0 ↔ z = 0 := by
  constructor
  · intro hh
    rcases Nat.eq_zero_or_pos z with e | e
    · exact e
    · exfalso
      have h1 : lN 0 < lN z := (lN_lt (by decide) h).mpr e
      unfold lg_cmp at hh
      first
        | (rw [if_pos h1] at hh; exact absurd hh (by decide))
        | (rw [if_neg (fun q => absurd ((lN_lt h (by decide)).mp q) (by omega)), if_neg (fun q => absurd ((lN_eq h (by decide)).mp q) (by omega))] at hh; exact absurd hh (by decide))
        | (rw [if_neg (fun q => absurd ((lN_lt h (by decide)).mp q) (by omega)), if_pos h1] at hh; exact absurd hh (by decide))
        | (rw [if_neg (fun q => absurd ((lN_eq h (by decide)).mp q) (by omega)), if_neg (fun q => absurd ((lN_lt h (by decide)).mp q) (by omega))] at hh; exact absurd hh (by decide))
  · intro e; rw [e]; decide
/-- how many of the sets below j meet F -/
def cz (F : Nat) : Nat → Nat
  | 0 => 0
  | j + 1 => cz F j + b01 (F &&& j ≠ 0)
theorem cz_le (F : Nat) : ∀ j, cz F j ≤ j
  | 0 => Nat.le_refl _
  | j + 1 => by
    have h1 := cz_le F j
    have h2 := b01_le (F &&& j ≠ 0)
    rw [cz]; omega
theorem oddsF : ∀ np, np < 7 → ∀ F, F < 2 ^ np → cz F (2 ^ np) / Nat.gcd (cz F (2 ^ np)) (2 ^ np) = 2 ^ pc F - 1 ∧ 2 ^ np / Nat.gcd (cz F (2 ^ np)) (2 ^ np) = 2 ^ pc F := by decide +kernel
