theorem i_nlt {a b : Int32} : ¬ a < b ↔ b ≤ a := by rw [Int32.lt_iff_toInt_lt, Int32.le_iff_toInt_le]; omega
theorem i_nle {a b : Int32} : ¬ a ≤ b ↔ b < a := by rw [Int32.lt_iff_toInt_lt, Int32.le_iff_toInt_le]; omega
/-! the words of the document, as numbers -/
def wr (k m : Nat) : Nat := if k = 0 then m else if k = 1 then m + 1 else 2 * m
def lo (kd hg : Nat → Nat) (q k m : Nat) : Nat := hg (3 * q + k) - wr (kd q) m
def dst (a b : Nat) : Nat := (a - b) + (b - a)
def sumk (f : Nat → Nat) : Nat → Nat
  | 0 => 0
  | n + 1 => sumk f n + f n
def apk (kd hg : Nat → Nat) (u q m k : Nat) : Nat := dst (hg (3 * u + k)) (lo kd hg q k m)
def ap (kd hg : Nat → Nat) (u q m : Nat) : Nat := sumk (apk kd hg u q m) 3
def alk (hg : Nat → Nat) (p q k : Nat) : Nat := dst (hg (3 * p + k)) (hg (3 * q + k))
def al (hg : Nat → Nat) (p q : Nat) : Nat := sumk (alk hg p q) 3
def bt (b k : Nat) : Nat := if b = 0 then 0 else 2 ^ k
def bset (f : Nat → Nat) : Nat → Nat
  | 0 => 0
  | n + 1 => bset f n ||| bt (f n) n
def fitb (sl : Nat) (kd hg : Nat → Nat) (u q m : Nat) : Nat := b01 (ap kd hg u q m ≤ sl)
def fset (np sl : Nat) (kd hg : Nat → Nat) (q m : Nat) : Nat := bset (fun p => fitb sl kd hg p q m) np
theorem wr_le {k m : Nat} (hm : m ≤ 9) : wr k m ≤ 18 := by unfold wr; split <;> (try split) <;> omega
theorem lo_le (kd : Nat → Nat) {hg : Nat → Nat} (hhg : ∀ j, hg j ≤ 9) (q k m : Nat) : lo kd hg q k m ≤ 9 := by
  have := hhg (3 * q + k)
  unfold lo; omega
theorem dst_le {a b : Nat} (ha : a ≤ 9) (hb : b ≤ 9) : dst a b ≤ 9 := by unfold dst; omega
theorem apk_le (kd : Nat → Nat) {hg : Nat → Nat} (hhg : ∀ j, hg j ≤ 9) (u q m k : Nat) : apk kd hg u q m k ≤ 9 := dst_le (hhg _) (lo_le kd hhg q k m)
theorem alk_le {hg : Nat → Nat} (hhg : ∀ j, hg j ≤ 9) (p q k : Nat) : alk hg p q k ≤ 9 := dst_le (hhg _) (hhg _)
theorem sumk_le {f : Nat → Nat} {c : Nat} (h : ∀ k, f k ≤ c) : ∀ n, sumk f n ≤ n * c
  | 0 => Nat.zero_le _
  | n + 1 => by
    have h1 := sumk_le h n
    have h2 := h n
    rw [sumk, Nat.succ_mul]; omega
theorem sumapk_le (kd : Nat → Nat) {hg : Nat → Nat} (hhg : ∀ j, hg j ≤ 9) (u q m i : Nat) : sumk (apk kd hg u q m) i ≤ i * 9 := sumk_le (apk_le kd hhg u q m) i
theorem sumalk_le {hg : Nat → Nat} (hhg : ∀ j, hg j ≤ 9) (p q i : Nat) : sumk (alk hg p q) i ≤ i * 9 := sumk_le (alk_le hhg p q) i
theorem ap_le (kd : Nat → Nat) {hg : Nat → Nat} (hhg : ∀ j, hg j ≤ 9) (u q m : Nat) : ap kd hg u q m ≤ 27 := sumapk_le kd hhg u q m 3
theorem al_le {hg : Nat → Nat} (hhg : ∀ j, hg j ≤ 9) (p q : Nat) : al hg p q ≤ 27 := sumalk_le hhg p q 3
theorem bt_lt {b k : Nat} : bt b k < 2 ^ (k + 1) := by
  unfold bt
  split
  · exact Nat.two_pow_pos _
  · exact Nat.pow_lt_pow_right (by decide) (Nat.lt_succ_self k)
theorem bset_lt (f : Nat → Nat) : ∀ n, bset f n < 2 ^ n
  | 0 => by simp [bset]
  | n + 1 => Nat.or_lt_two_pow (Nat.lt_of_lt_of_le (bset_lt f n) (Nat.pow_le_pow_right (by decide) (Nat.le_succ n))) bt_lt
theorem pow_le64 {n : Nat} (h : n ≤ 6) : 2 ^ n ≤ 64 := (Nat.pow_le_pow_right (by decide) h : 2 ^ n ≤ 2 ^ 6)
theorem bset_64 (f : Nat → Nat) {n : Nat} (h : n ≤ 6) : bset f n < 64 := Nat.lt_of_lt_of_le (bset_lt f n) (pow_le64 h)
theorem fset_lt (np sl : Nat) (kd hg : Nat → Nat) (q m : Nat) : fset np sl kd hg q m < 2 ^ np := bset_lt _ _
theorem fset_64 {np : Nat} (h : np ≤ 6) (sl : Nat) (kd hg : Nat → Nat) (q m : Nat) : fset np sl kd hg q m < 64 := bset_64 _ h
/-- Math.max(a - b, 0) -/
theorem mx_sub {a b : Nat} (ha : a < 2 ^ 30) (hb : b < 2 ^ 30) : (if nI a - nI b < nI 0 then nI 0 else nI a - nI b) = nI (a - b) := by
  rcases Nat.lt_or_ge a b with h | h
  · rw [if_pos (by rw [nI_0]; exact pk_sneg hb h), show a - b = 0 by omega]
  · rw [pk_sub h, if_neg (by rw [nI_0]; exact nI_pos (by omega))]
theorem neg_sub (a b : Nat) : 0 - (nI a - nI b) = nI b - nI a := by
  rw [Int32.zero_sub, Int32.neg_sub]
/-- Math.abs(a - b) -/
theorem abs_sub {a b : Nat} (ha : a < 2 ^ 30) (hb : b < 2 ^ 30) : (if 0 ≤ nI a - nI b then nI a - nI b else 0 - (nI a - nI b)) = nI (dst a b) := by
  rcases Nat.lt_or_ge a b with h | h
  · have h1 : ¬ 0 ≤ nI a - nI b := fun z => by
      have h2 := pk_sneg hb h
      rw [Int32.lt_iff_toInt_lt] at h2
      rw [Int32.le_iff_toInt_le] at z
      omega
    rw [if_neg h1, neg_sub, pk_sub (Nat.le_of_lt h)]
    congr 1
    unfold dst; omega
  · rw [pk_sub h, if_pos (nI_pos' (by omega))]
    congr 1
    unfold dst; omega
/-- is it a number of one of n things? -/
abbrev isP (n : Nat) (p : Int32) : Prop := ¬ p < 0 ∧ p < nI n
theorem isP_of {n u : Nat} (hn : n < 2 ^ 31) (h : u < n) : isP n (nI u) := ⟨nI_pos (by omega), nI_lt h hn⟩
theorem nI_neI {a b : Nat} (ha : a < 2 ^ 31) (hb : b < 2 ^ 31) (h : a ≠ b) : ¬ nI a = nI b := fun z => h ((nI_eq ha hb).mp z)
theorem rng_post (n : Nat) (hn : n + 1 < 2 ^ 31) (v : Int32) : (∃ w, w < n + 1 ∧ v = nI w ∧ nI (b01 (nI 0 ≤ v ∧ v ≤ nI n)) = nI 1) ∨ (¬ isP (n + 1) v ∧ nI (b01 (nI 0 ≤ v ∧ v ≤ nI n)) = nI 0) := by
  by_cases h : nI 0 ≤ v ∧ v ≤ nI n
  · obtain ⟨j, h1, h2⟩ := nI_btw (x := v) (n := n) (by omega) (by rw [nI_0] at h; exact i_nlt.mpr h.1) h.2
    exact Or.inl ⟨j, by omega, h2, by rw [b01_t h]⟩
  · refine Or.inr ⟨fun z => h ?_, by rw [b01_f h]⟩
    obtain ⟨j, h1, rfl⟩ := nI_btl (n := n + 1) hn z.1 z.2
    exact ⟨nI_le (by omega) (by omega), nI_le (by omega) (by omega)⟩
theorem isSet_no {np : Nat} (hnp : np ≤ 6) {set : Int32} (h : nI (2 ^ np - 1) < set) : ¬ isP (2 ^ np) set := fun z => by
  have h6 := pow_le64 hnp
  obtain ⟨j, h1, rfl⟩ := nI_btl (n := 2 ^ np) (by omega) z.1 z.2
  have h2 := (nI_ltI (by omega) (by omega)).mp h
  omega
theorem isSet_yes {np : Nat} (hnp : np ≤ 6) {set : Int32} (h0 : ¬ set < 0) (h : ¬ nI (2 ^ np - 1) < set) : (∃ b, b < 2 ^ np ∧ set = nI b ∧ nI 1 = nI 1) ∨ (¬ isP (2 ^ np) set ∧ nI 1 = nI 0) := by
  have h6 := pow_le64 hnp
  have h7 : 1 ≤ 2 ^ np := Nat.one_le_two_pow
  obtain ⟨j, h1, rfl⟩ := nI_btw (n := 2 ^ np - 1) (by omega) h0 (i_nlt.mp h)
  exact Or.inl ⟨j, by omega, rfl, rfl⟩
