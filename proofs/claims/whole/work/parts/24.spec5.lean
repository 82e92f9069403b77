/-! sets of pairs, counted -/
theorem ldn {n x y : Nat} (hx : x < 2 ^ n) (hy : y < 2 ^ n) (a b : Nat) : (x + 2 ^ n * a) &&& (y + 2 ^ n * b) = (x &&& y) + 2 ^ n * (a &&& b) := by
  have hp : 0 < 2 ^ n := Nat.two_pow_pos n
  have h1 : ((x + 2 ^ n * a) &&& (y + 2 ^ n * b)) % 2 ^ n = (x &&& y) := by
    rw [Nat.and_mod_two_pow, Nat.add_mul_mod_self_left, Nat.add_mul_mod_self_left, Nat.mod_eq_of_lt hx, Nat.mod_eq_of_lt hy]
  have h2 : ((x + 2 ^ n * a) &&& (y + 2 ^ n * b)) / 2 ^ n = (a &&& b) := by
    rw [Nat.and_div_two_pow, Nat.add_mul_div_left _ _ hp, Nat.add_mul_div_left _ _ hp, Nat.div_eq_of_lt hx, Nat.div_eq_of_lt hy, Nat.zero_add, Nat.zero_add]
  have h3 := Nat.div_add_mod ((x + 2 ^ n * a) &&& (y + 2 ^ n * b)) (2 ^ n)
  rw [h1, h2] at h3
  rw [← h3, Nat.add_comm]
theorem bset_succ {f : Nat → Nat} (hf : ∀ k, f k ≤ 1) (n : Nat) : bset f (n + 1) = bset f n + 2 ^ n * f n := by
  have h := hf n
  rw [bset, bt]
  rcases (show f n = 0 ∨ f n = 1 by omega) with e | e
  · rw [e, if_pos rfl, Nat.or_zero, Nat.mul_zero, Nat.add_zero]
  · rw [e, if_neg (by decide), Nat.mul_one, Nat.or_comm]
    have := Nat.two_pow_add_eq_or_of_lt (bset_lt f n) 1
    rw [Nat.mul_one] at this
    rw [← this, Nat.add_comm]
theorem pcf_bset {f : Nat → Nat} (hf : ∀ k, f k ≤ 1) : ∀ n, pcf n (bset f n) = sumk f n
  | 0 => rfl
  | n + 1 => by
    have h := hf n
    rw [bset_succ hf, pcf_add n 1 _ _ (bset_lt f n), pcf_bset hf n, sumk, pcf, pcf]
    omega
theorem pc_small {n x : Nat} (hn : n ≤ 32) (hx : x < 2 ^ n) : pc x = pcf n x := by
  have := pcf_add n (32 - n) x 0 hx
  rw [show n + (32 - n) = 32 by omega, Nat.mul_zero, Nat.add_zero, pcf_0, Nat.add_zero] at this
  exact this
theorem pc_bset {f : Nat → Nat} (hf : ∀ k, f k ≤ 1) {n : Nat} (hn : n ≤ 32) : pc (bset f n) = sumk f n := by
  rw [pc_small hn (bset_lt f n), pcf_bset hf n]
theorem bset_and {f g : Nat → Nat} (hf : ∀ k, f k ≤ 1) (hg : ∀ k, g k ≤ 1) : ∀ n, bset f n &&& bset g n = bset (fun k => f k * g k) n
  | 0 => by rw [bset, bset, bset]; decide
  | n + 1 => by
    have h1 := hf n
    have h2 := hg n
    have hfg : ∀ k, (fun k => f k * g k) k ≤ 1 := fun k => by
      have h1 := hf k
      have h2 := hg k
      rcases (show f k = 0 ∨ f k = 1 by omega) with e | e
      · simp only [e, Nat.zero_mul]; omega
      · simp only [e, Nat.one_mul]; exact h2
    rw [bset_succ hf, bset_succ hg, bset_succ hfg, ldn (bset_lt f n) (bset_lt g n), bset_and hf hg n]
    congr 2
    rcases (show f n = 0 ∨ f n = 1 by omega) with e | e <;> rcases (show g n = 0 ∨ g n = 1 by omega) with e2 | e2 <;> rw [e, e2] <;> rfl
theorem bset_bit {f : Nat → Nat} (hf : ∀ k, f k ≤ 1) : ∀ {n k : Nat}, k < n → (bset f n &&& 2 ^ k = 2 ^ k * f k)
  | 0, k, h => absurd h (Nat.not_lt_zero k)
  | n + 1, k, h => by
    have h1 := hf n
    rw [bset_succ hf]
    rcases Nat.lt_or_ge k n with c | c
    · have e := ldn (bset_lt f n) (Nat.pow_lt_pow_right (a := 2) (by decide) c) (f n) 0
      rw [Nat.mul_zero, Nat.add_zero, Nat.and_zero, Nat.mul_zero, Nat.add_zero] at e
      rw [e, bset_bit hf c]
    · have hk : k = n := by omega
      subst hk
      have e := ldn (bset_lt f k) (Nat.two_pow_pos k) (f k) 1
      rw [Nat.zero_add, Nat.mul_one, Nat.and_zero, Nat.zero_add] at e
      rw [e]
      congr 1
      rcases (show f k = 0 ∨ f k = 1 by omega) with e2 | e2 <;> rw [e2] <;> rfl
theorem bset_hit {f : Nat → Nat} (hf : ∀ k, f k ≤ 1) {n k : Nat} (h : k < n) : bset f n &&& 2 ^ k = 0 ↔ f k = 0 := by
  rw [bset_bit hf h]
  constructor
  · intro z
    rcases Nat.mul_eq_zero.mp z with w | w
    · exact absurd w (Nat.ne_of_gt (Nat.two_pow_pos k))
    · exact w
  · intro z
    rw [z, Nat.mul_zero]
/-- the first at which f isn't 0 -/
def f1 (f : Nat → Nat) : Nat → Option Nat
  | 0 => none
  | n + 1 => match f1 f n with
    | some k => some k
    | none => if f n ≠ 0 then some n else none
theorem fo_bset {f : Nat → Nat} (hf : ∀ k, f k ≤ 1) (N : Nat) : ∀ n, n ≤ N → fo (bset f N) n = f1 f n
  | 0, _ => rfl
  | n + 1, h => by
    have e : (bset f N &&& 2 ^ n ≠ 0) = (f n ≠ 0) := by
      have := bset_hit hf (n := N) (k := n) (by omega)
      exact propext ⟨fun z w => z (this.mpr w), fun z w => z (this.mp w)⟩
    rw [fo, f1, fo_bset hf N n (by omega)]
    cases f1 f n with
    | some k => rfl
    | none =>
      show (if bset f N &&& 2 ^ n ≠ 0 then some n else none) = (if f n ≠ 0 then some n else none)
      by_cases z : f n ≠ 0
      · rw [if_pos z, if_pos (by rw [e]; exact z)]
      · rw [if_neg z, if_neg (by rw [e]; exact z)]
theorem enc_9 {o : Option Nat} (h : ∀ b, o = some b → b < 2 ^ 31) : enc o = -9 ↔ o = none := by
  cases o with
  | none => exact ⟨fun _ => rfl, fun _ => rfl⟩
  | some b => exact ⟨fun z => absurd z (nI_ne9 (h b rfl)), fun z => by cases z⟩
theorem wv_9 {vm : Nat → Int32} {n : Nat} (hn : n ≤ 20) : enc (wv vm n) = -9 ↔ wv vm n = none := enc_9 (fun b hb => by have := wv_lt hb; omega)
abbrev tkb (np sl : Nat) (kd hg : Nat → Nat) (b : Nat) (pp mm : Nat → Nat) : Nat → Nat := fun k => b01 (fset np sl kd hg (pp k) (mm k) &&& b = 0)
abbrev gdb (sl : Nat) (kd hg : Nat → Nat) (pp mm : Nat → Nat) : Nat → Nat := fun k => fitb sl kd hg (pp k) (pp k) (mm k)
def sp_meet (np sl : Nat) (kd hg : Nat → Nat) (vn : Nat) (vm : Nat → Int32) (pp mm : Nat → Nat) (b w : Nat) : Int32 :=
  if w = 1 then enc (wv vm vn) else if wv vm vn ≠ none then -100 - enc (wv vm vn) else if w = 0 then nI (vn - sumk (tkb np sl kd hg b pp mm) vn) else if w = 2 then enc (f1 (tkb np sl kd hg b pp mm) vn) else if w = 3 then nI (sumk (fun k => tkb np sl kd hg b pp mm k * gdb sl kd hg pp mm k) vn) else if w - 10 < np then nI (sumk (fun k => tkb np sl kd hg b pp mm k * b01 (pp k = w - 10)) vn) else -9
abbrev isA (w : Int32) : Prop := isP 4 w ∨ (isP 16 w ∧ ¬ isP 10 w)
abbrev vpo (cel : Nat → Nat → Int32) (k i : Nat) : Nat → Int32 := fun j => cel k (i + 2 * j)
abbrev vmo (cel : Nat → Nat → Int32) (k i : Nat) : Nat → Int32 := fun j => cel k (i + 2 * j + 1)
def ft_voy (lane ml : Nat → Nat) (k z i n w : Int32) : Nat := if isP 4 k then (if isP 3 z ∧ isP 21 n ∧ isA w then fC (lane (tN k)) (ml (tN k)) (tN z) i (nI (2 * tN n)) else 0) else 0
def sp_voy (np sl : Nat) (kd hg lane ml : Nat → Nat) (cel : Nat → Nat → Int32) (set k z i n w : Int32) : Int32 :=
  if isP 4 k then (if isP 3 z ∧ isP 21 n ∧ isA w then (if ft_voy lane ml k z i n w ≠ 0 then fA (ft_voy lane ml k z i n w) else if 0 < np then (if isP (2 ^ np) set then (if rf np (vpo cel (tN k) (tN i)) (vmo cel (tN k) (tN i)) (tN n) = nI 0 then sp_meet np sl kd hg (tN n) (vmo cel (tN k) (tN i)) (fun j => tN (vpo cel (tN k) (tN i) j)) (fun j => tN (vmo cel (tN k) (tN i) j)) (tN set) (tN w) else rf np (vpo cel (tN k) (tN i)) (vmo cel (tN k) (tN i)) (tN n)) else -2) else -3) else -2) else -1
theorem sp_meet_congr {np sl : Nat} {kd hg : Nat → Nat} {vn : Nat} {vm vm' : Nat → Int32} {pp mm : Nat → Nat} {b w : Nat} (h : ∀ j, j < vn → vm j = vm' j) : sp_meet np sl kd hg vn vm pp mm b w = sp_meet np sl kd hg vn vm' pp mm b w := by
  unfold sp_meet; rw [wv_congr h]
theorem isA_of {w : Nat} (h : w < 4 ∨ (10 ≤ w ∧ w < 16)) : isA (nI w) := by
  rcases h with h | h
  · exact Or.inl (isP_of (by decide) h)
  · refine Or.inr ⟨isP_of (by decide) h.2, fun z => ?_⟩
    have := (nI_ltI (by omega) (by decide)).mp z.2
    omega
