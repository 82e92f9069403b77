/-! the text of a coast -/
abbrev dg (x : Int32) : Prop := nI 48 ≤ x ∧ x ≤ nI 57
def dgb (x : Int32) : Nat := b01 (dg x)
def dv (x : Int32) : Nat := x.toNatClampNeg - 48
def kl (x : Int32) : Nat := if x = nI 100 then 2 else if x = nI 108 then 1 else 0
def gob (k : Nat) (x : Int32) : Nat := if 32 ≤ k then 0 else if k = 0 then b01 (x = nI 101) else if k = 1 then dgb x else if (k - 2) % 5 = 0 then b01 (x = nI 59) else if (k - 2) % 5 = 1 then b01 (x = nI 112 ∨ x = nI 108 ∨ x = nI 100) else dgb x
theorem gob_le (k : Nat) (x : Int32) : gob k x ≤ 1 := by
  unfold gob dgb
  split
  · omega
  · split
    · exact b01_le _
    · split
      · exact b01_le _
      · split
        · exact b01_le _
        · split <;> exact b01_le _
theorem kl_le (x : Int32) : kl x ≤ 2 := by unfold kl; split <;> (try split) <;> omega
theorem dg_dv {x : Int32} (h : dg x) : x - nI 48 = nI (dv x) ∧ dv x ≤ 9 := by
  obtain ⟨j, hj, rfl⟩ := nI_btw (x := x) (n := 57) (by decide) (fun z => by
    have h1 := h.1
    rw [Int32.lt_iff_toInt_lt] at z
    rw [Int32.le_iff_toInt_le] at h1
    have e0 : (0 : Int32).toInt = 0 := by decide
    have e1 : (nI 48).toInt = 48 := by decide
    omega) h.2
  have h1 := (nI_leI (by decide) (by omega)).mp h.1
  have e : dv (nI j) = j - 48 := by unfold dv; rw [nI_clamp (by omega)]
  rw [e, pk_sub h1]
  exact ⟨rfl, by omega⟩
/-- the first place below n at which f is 0 -/
def fb (f : Nat → Nat) : Nat → Option Nat
  | 0 => none
  | n + 1 => match fb f n with
    | some k => some k
    | none => if f n = 0 then some n else none
theorem fb_stay {f : Nat → Nat} {i k : Nat} (h : fb f i = some k) : ∀ n, i ≤ n → fb f n = some k
  | 0, hn => by rw [Nat.le_zero.mp hn] at h; exact h
  | n + 1, hn => by
    rcases Nat.lt_or_ge i (n + 1) with c | c
    · rw [fb, fb_stay h n (by omega)]
    · rw [← Nat.le_antisymm hn c]; exact h
theorem fb_bad {f : Nat → Nat} {i n : Nat} (h : fb f i = none) (h1 : f i = 0) (hn : i < n) : fb f n = some i :=
  fb_stay (i := i + 1) (by rw [fb, h]; exact if_pos h1) n (by omega)
theorem fb_go {f : Nat → Nat} {i : Nat} (h : fb f i = none) (h1 : f i ≠ 0) : fb f (i + 1) = none := by
  rw [fb, h]; exact if_neg h1
theorem fb_none {f : Nat → Nat} : ∀ {n : Nat}, (∀ k, k < n → f k ≠ 0) → fb f n = none
  | 0, _ => rfl
  | n + 1, h => fb_go (fb_none (fun k hk => h k (by omega))) (h n (by omega))
theorem fb_all {f : Nat → Nat} : ∀ {n : Nat}, fb f n = none → ∀ k, k < n → f k ≠ 0
  | 0, _, k, hk => absurd hk (Nat.not_lt_zero k)
  | n + 1, h, k, hk => by
    have h0 : fb f n = none := by
      cases e : fb f n with
      | none => rfl
      | some j => rw [fb, e] at h; cases h
    have h1 : f n ≠ 0 := fun z => by rw [fb, h0] at h; simp only [z, if_true] at h; cases h
    rcases Nat.lt_or_ge k n with c | c
    · exact fb_all h0 k c
    · rw [show k = n by omega]; exact h1
theorem fb_lt {f : Nat → Nat} : ∀ {n k : Nat}, fb f n = some k → k < n
  | 0, k, h => by cases h
  | n + 1, k, h => by
    rw [fb] at h
    split at h
    · rename_i k' e
      have := fb_lt e
      cases h; omega
    · split at h
      · cases h; omega
      · cases h
def wh (n : Nat) : Prop := 12 ≤ n ∧ (n - 2) % 5 = 0
abbrev tx (c : Nat → Int32) : Nat → Nat := fun k => gob k (c k)
/-- the first fault of a text, or -9 -/
def fwc (c : Nat → Int32) (n : Nat) : Int32 := match fb (tx c) n with
  | some k => nI k
  | none => if 12 ≤ n ∧ (n - 2) % 5 = 0 then -9 else nI n
theorem fwc_bad {c : Nat → Int32} {i n : Nat} (h : fb (tx c) i = none) (h1 : tx c i = 0) (hn : i < n) : fwc c n = nI i := by
  unfold fwc; rw [fb_bad h h1 hn]
theorem fwc_yes {c : Nat → Int32} {n : Nat} (h : fb (tx c) n = none) (h1 : 12 ≤ n ∧ (n - 2) % 5 = 0) : fwc c n = -9 := by
  unfold fwc; rw [h]; exact if_pos h1
theorem fwc_no {c : Nat → Int32} {n : Nat} (h : fb (tx c) n = none) (h1 : ¬ (12 ≤ n ∧ (n - 2) % 5 = 0)) : fwc c n = nI n := by
  unfold fwc; rw [h]; exact if_neg h1
theorem nI_ne9 {n : Nat} (h : n < 2 ^ 31) : nI n ≠ -9 := fun z => by
  have h1 := nI_pos h
  rw [z] at h1
  exact h1 (by decide)
/-- a text that is taken -/
def okT (c : Nat → Int32) (n : Nat) : Prop := (∀ k, k < n → gob k (c k) ≠ 0) ∧ 12 ≤ n ∧ (n - 2) % 5 = 0 ∧ n ≤ 32
theorem fwc_9 {c : Nat → Int32} {n : Nat} (hn : n < 2 ^ 31) (h : fwc c n = -9) : okT c n := by
  unfold fwc at h
  split at h
  · rename_i k e
    exact absurd h (nI_ne9 (by have := fb_lt e; omega))
  · rename_i e
    split at h
    · rename_i w
      have ha := fb_all e
      refine ⟨ha, w.1, w.2, ?_⟩
      rcases Nat.lt_or_ge 32 n with z | z
      · exact absurd (by show gob 32 (c 32) = 0; unfold gob; exact if_pos (Nat.le_refl 32)) (ha 32 z)
      · exact z
    · exact absurd h (nI_ne9 hn)
theorem fwc_n9 {c : Nat → Int32} {n : Nat} (h : fwc c n ≠ -9) : ∃ k, k ≤ n ∧ fwc c n = nI k := by
  unfold fwc at h ⊢
  split at h
  · rename_i k e
    exact ⟨k, by have := fb_lt e; omega, rfl⟩
  · rename_i e
    split at h
    · exact absurd rfl h
    · rename_i w
      exact ⟨n, Nat.le_refl _, if_neg w⟩
theorem okT_9 {c : Nat → Int32} {n : Nat} (h : okT c n) : fwc c n = -9 := fwc_yes (fb_none h.1) ⟨h.2.1, h.2.2.1⟩
theorem gob_dig {k : Nat} {x : Int32} (h : gob k x ≠ 0) (h1 : k = 1 ∨ (2 ≤ k ∧ (k - 2) % 5 ≠ 0 ∧ (k - 2) % 5 ≠ 1)) : dg x := by
  unfold gob at h
  by_cases z : 32 ≤ k
  · rw [if_pos z] at h; exact absurd rfl h
  · rw [if_neg z] at h
    rcases h1 with h1 | h1
    · rw [if_neg (by omega), if_pos h1] at h
      exact b01_n0.mp h
    · rw [if_neg (by omega), if_neg (by omega), if_neg h1.2.1, if_neg h1.2.2] at h
      exact b01_n0.mp h
theorem okT_sl {c : Nat → Int32} {n : Nat} (h : okT c n) : dg (c 1) := gob_dig (h.1 1 (by have := h.2.1; omega)) (Or.inl rfl)
theorem okT_h {c : Nat → Int32} {n p k : Nat} (h : okT c n) (hp : p < (n - 2) / 5) (hk : k < 3) : dg (c (4 + 5 * p + k)) := gob_dig (h.1 _ (by have := h.2.1; omega)) (Or.inr ⟨by omega, by omega, by omega⟩)
/-- the heights of a text -/
def th (c : Nat → Int32) (j : Nat) : Nat := dv (c (4 + 5 * (j / 3) + j % 3))
def tk (c : Nat → Int32) (p : Nat) : Nat := kl (c (3 + 5 * p))
theorem th_at (c : Nat → Int32) {p k : Nat} (hk : k < 3) : th c (3 * p + k) = dv (c (4 + 5 * p + k)) := by
  unfold th; rw [show (3 * p + k) / 3 = p by omega, show (3 * p + k) % 3 = k by omega]
