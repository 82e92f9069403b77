theorem enc_some {o : Option Nat} (h : ¬ enc o = -9) : ∃ b, o = some b := by
  cases o with
  | none => exact absurd rfl h
  | some b => exact ⟨b, rfl⟩
theorem pc_half {n : Nat} (h : n < 2 ^ 31) : pc n = (n &&& 1) + pc (n / 2 ^ 1) := by
  have e1 : n &&& 1 = n % 2 := by
    have := Nat.and_two_pow_sub_one_eq_mod n 1
    exact this
  have e2 : pc (n / 2 ^ 1) = pcf 31 (n / 2) := by rw [show (2 : Nat) ^ 1 = 2 by decide]; exact pc_small (by decide) (by omega)
  rw [e1, e2]
  rfl
theorem bit_shr {b i : Nat} : b / 2 ^ i &&& 1 = 1 ↔ b &&& 2 ^ i ≠ 0 := by
  have e : b &&& 2 ^ i = 2 ^ i * (b / 2 ^ i &&& 1) := by
    have h := ldn (n := i) (x := b % 2 ^ i) (y := 0) (Nat.mod_lt _ (Nat.two_pow_pos i)) (Nat.two_pow_pos i) (b / 2 ^ i) 1
    rw [Nat.mod_add_div, Nat.zero_add, Nat.mul_one, Nat.and_zero, Nat.zero_add] at h
    exact h
  have hl : b / 2 ^ i &&& 1 ≤ 1 := Nat.and_le_right
  rw [e]
  constructor
  · intro z w
    rw [z, Nat.mul_one] at w
    exact absurd w (Nat.ne_of_gt (Nat.two_pow_pos i))
  · intro z
    rcases (show b / 2 ^ i &&& 1 = 0 ∨ b / 2 ^ i &&& 1 = 1 by omega) with w | w
    · rw [w, Nat.mul_zero] at z; exact absurd rfl z
    · exact w
theorem ms_1 (L : Nat → Nat) (np : Nat) : ms L np 1 = 0 := by
  have := ms_lt L np (n := 1) (M := 1) (Nat.le_refl _) (by decide)
  omega
theorem fw_lt {L : Nat → Nat} {np : Nat} : ∀ {n b : Nat}, fw L np n = some b → b < n
  | 0, b, h => by cases h
  | n + 1, b, h => by
    rw [fw] at h
    split at h
    · split at h
      · cases h; omega
      · cases h
    · rename_i b' e
      have := fw_lt e
      split at h
      · cases h; omega
      · cases h; omega
