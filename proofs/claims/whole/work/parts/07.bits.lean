/-! Integer.bitCount -/
theorem ld2 {a c : Nat} (b d : Nat) (ha : a < 256) (hc : c < 256) : (a + 256 * b) &&& (c + 256 * d) = (a &&& c) + 256 * (b &&& d) := by
  have h1 : ((a + 256 * b) &&& (c + 256 * d)) % 2 ^ 8 = (a &&& c) := by
    rw [Nat.and_mod_two_pow, show (a + 256 * b) % 2 ^ 8 = a by omega, show (c + 256 * d) % 2 ^ 8 = c by omega]
  have h2 : ((a + 256 * b) &&& (c + 256 * d)) / 2 ^ 8 = (b &&& d) := by
    rw [Nat.and_div_two_pow, show (a + 256 * b) / 2 ^ 8 = b by omega, show (c + 256 * d) / 2 ^ 8 = d by omega]
  omega
def t1 (v : Nat) : Nat := v - (v / 2 &&& 85)
def t2 (v : Nat) : Nat := (v &&& 51) + (v / 4 &&& 51)
def t3 (v : Nat) : Nat := (v + v / 16) &&& 15
def s1 (b : Nat) : Nat := b - (b / 2 ^ 1 &&& 1431655765)
def s2 (x : Nat) : Nat := (x &&& 858993459) + (x / 2 ^ 2 &&& 858993459)
def s3 (x : Nat) : Nat := (x + x / 2 ^ 4) &&& 252645135
def s4 (x : Nat) : Nat := x + x / 2 ^ 8
def s5 (x : Nat) : Nat := x + x / 2 ^ 16
theorem d1 : ∀ v, v < 256 → ∀ e, e < 2 → (v / 2 + 128 * e) &&& 85 = v / 2 &&& 85 := by decide +kernel
theorem d2 : ∀ v, v < 256 → ∀ e, e < 4 → (v / 4 + 64 * e) &&& 51 = v / 4 &&& 51 := by decide +kernel
theorem d3 : ∀ v, v < 69 → ∀ e, e < 5 → (v + v / 16 + 16 * e) &&& 15 = t3 v := by decide +kernel
theorem st1 {v r M : Nat} (hv : v < 256) : (v + 256 * r) - ((v + 256 * r) / 2 &&& (85 + 256 * M)) = t1 v + 256 * (r - (r / 2 &&& M)) := by
  rw [show (v + 256 * r) / 2 = (v / 2 + 128 * (r % 2)) + 256 * (r / 2) by omega, ld2 _ _ (by omega) (by decide), d1 v hv (r % 2) (by omega)]
  have h1 : v / 2 &&& 85 ≤ v / 2 := Nat.and_le_left
  have h2 : r / 2 &&& M ≤ r / 2 := Nat.and_le_left
  unfold t1; omega
theorem st2 {v r M : Nat} (hv : v < 256) : ((v + 256 * r) &&& (51 + 256 * M)) + ((v + 256 * r) / 4 &&& (51 + 256 * M)) = t2 v + 256 * ((r &&& M) + (r / 4 &&& M)) := by
  rw [show (v + 256 * r) / 4 = (v / 4 + 64 * (r % 4)) + 256 * (r / 4) by omega, ld2 _ _ hv (by decide), ld2 _ _ (by omega) (by decide), d2 v hv (r % 4) (by omega)]
  unfold t2; omega
theorem st3 {v r M : Nat} (hv : v < 69) (hr : r % 16 < 5) : ((v + 256 * r) + (v + 256 * r) / 16) &&& (15 + 256 * M) = t3 v + 256 * ((r + r / 16) &&& M) := by
  rw [show (v + 256 * r) + (v + 256 * r) / 16 = (v + v / 16 + 16 * (r % 16)) + 256 * (r + r / 16) by omega, ld2 _ _ (by omega) (by decide), d3 v hv (r % 16) hr]
theorem e1 : ∀ v, v < 256 → t1 v < 256 ∧ t2 (t1 v) < 69 ∧ t2 (t1 v) % 16 < 5 ∧ t3 (t2 (t1 v)) = pcf 8 v := by decide +kernel
theorem e2 : ∀ v, v < 16 → v - (v / 2 &&& 21845) = t1 v ∧ ((t1 v &&& 13107) + (t1 v / 4 &&& 13107)) = t2 (t1 v) ∧ ((t2 (t1 v) + t2 (t1 v) / 16) &&& 3855) = t3 (t2 (t1 v)) := by decide +kernel
theorem pcf_add : ∀ (k f x r : Nat), x < 2 ^ k → pcf (k + f) (x + 2 ^ k * r) = pcf k x + pcf f r
  | 0, f, x, r, h => by
    have h0 : x = 0 := by omega
    subst h0
    rw [Nat.zero_add, Nat.zero_add, Nat.pow_zero, Nat.one_mul, pcf, Nat.zero_add]
  | k + 1, f, x, r, h => by
    have e : 2 ^ (k + 1) * r = 2 * (2 ^ k * r) := by rw [Nat.pow_succ, Nat.mul_comm (2 ^ k) 2, Nat.mul_assoc]
    have hx : x / 2 < 2 ^ k := by rw [Nat.pow_succ] at h; omega
    rw [show k + 1 + f = (k + f) + 1 by omega, pcf, pcf, e, show (x + 2 * (2 ^ k * r)) % 2 = x % 2 by omega, show (x + 2 * (2 ^ k * r)) / 2 = x / 2 + 2 ^ k * r by omega, pcf_add k f (x / 2) r hx]
    omega
theorem pcf_0 : ∀ f, pcf f 0 = 0
  | 0 => rfl
  | f + 1 => by rw [pcf, Nat.zero_div, pcf_0 f]
theorem bc_ok {b : Nat} (h : b < 2 ^ 20) : (s5 (s4 (s3 (s2 (s1 b))))) &&& 63 = pc b := by
  obtain ⟨v0, v1, v2, h0, h1, h2, rfl⟩ : ∃ v0 v1 v2, v0 < 256 ∧ v1 < 256 ∧ v2 < 16 ∧ b = v0 + 256 * (v1 + 256 * v2) := ⟨b % 256, b / 256 % 256, b / 65536, by omega, by omega, by omega, by omega⟩
  obtain ⟨a1, a2, a3, a4⟩ := e1 v0 h0
  obtain ⟨b1, b2, b3, b4⟩ := e1 v1 h1
  obtain ⟨c1, c2, c3, c4⟩ := e1 v2 (by omega)
  obtain ⟨k1, k2, k3⟩ := e2 v2 h2
  have q1 : s1 (v0 + 256 * (v1 + 256 * v2)) = t1 v0 + 256 * (t1 v1 + 256 * t1 v2) := by
    unfold s1
    rw [show (1431655765 : Nat) = 85 + 256 * (85 + 256 * 21845) by decide, show (2 : Nat) ^ 1 = 2 by decide, st1 h0, st1 h1, k1]
  have q2 : s2 (t1 v0 + 256 * (t1 v1 + 256 * t1 v2)) = t2 (t1 v0) + 256 * (t2 (t1 v1) + 256 * t2 (t1 v2)) := by
    unfold s2
    rw [show (858993459 : Nat) = 51 + 256 * (51 + 256 * 13107) by decide, show (2 : Nat) ^ 2 = 4 by decide, st2 a1, st2 b1, k2]
  have q3 : s3 (t2 (t1 v0) + 256 * (t2 (t1 v1) + 256 * t2 (t1 v2))) = pcf 8 v0 + 256 * (pcf 8 v1 + 256 * pcf 8 v2) := by
    unfold s3
    rw [show (252645135 : Nat) = 15 + 256 * (15 + 256 * 3855) by decide, show (2 : Nat) ^ 4 = 16 by decide, st3 a2 (by omega), st3 b2 c3, k3, a4, b4, c4]
  rw [q1, q2, q3]
  have g0 := pcf_le 8 8 v0 h0
  have g1 := pcf_le 8 8 v1 h1
  have g2 := pcf_le 8 8 v2 (by omega)
  have q5 : s5 (s4 (pcf 8 v0 + 256 * (pcf 8 v1 + 256 * pcf 8 v2))) = (pcf 8 v0 + pcf 8 v1 + pcf 8 v2) + 64 * (4 * (pcf 8 v1 + pcf 8 v2) + 1024 * pcf 8 v2) := by
    unfold s5 s4; omega
  rw [q5, show (63 : Nat) = 2 ^ 6 - 1 by decide, Nat.and_two_pow_sub_one_eq_mod]
  have p1 : pc (v0 + 256 * (v1 + 256 * v2)) = pcf 8 v0 + (pcf 8 v1 + pcf 16 v2) := by
    unfold pc
    rw [show (32 : Nat) = 8 + 24 by decide, show (256 : Nat) = 2 ^ 8 by decide, pcf_add 8 24 v0 _ h0, show (24 : Nat) = 8 + 16 by decide, pcf_add 8 16 v1 _ h1]
  have p2 : pcf 16 v2 = pcf 8 v2 := by
    have := pcf_add 8 8 v2 0 (by omega)
    rw [Nat.mul_zero, Nat.add_zero, pcf_0] at this
    exact this
  rw [p1, p2]; omega
theorem s1_le (b : Nat) : s1 b ≤ b := Nat.sub_le _ _
theorem s2_lt {x : Nat} (h : x < 2 ^ 20) : s2 x < 2 ^ 21 := by
  have h1 : x &&& 858993459 ≤ x := Nat.and_le_left
  have h2 : x / 2 ^ 2 &&& 858993459 ≤ x / 2 ^ 2 := Nat.and_le_left
  unfold s2; omega
theorem s3_le (x : Nat) : s3 x ≤ 252645135 := Nat.and_le_right
theorem s4_lt {x : Nat} (h : x ≤ 252645135) : s4 x < 2 ^ 28 := by unfold s4; omega
theorem s5_lt {x : Nat} (h : x < 2 ^ 28) : s5 x < 2 ^ 29 := by unfold s5; omega
theorem s1_sub (b : Nat) : b / 2 ^ 1 &&& 1431655765 ≤ b := Nat.le_trans Nat.and_le_left (Nat.div_le_self _ _)
