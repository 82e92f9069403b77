abbrev rc (cel : Nat → Nat → Int32) (p : Nat) : Nat → Int32 := fun j => cf cel (p + j)
theorem stk_bad {c : Nat → Int32} {a n : Nat} (h : ∀ j, j < a → gob j (c j) ≠ 0) (h1 : gob a (c a) = 0) (hn : a < n) : fwc c n = nI a := fwc_bad (fb_none h) h1 hn
theorem stk_end {c : Nat → Int32} {n : Nat} (h : ∀ j, j < n → gob j (c j) ≠ 0) (h1 : ¬ (12 ≤ n ∧ (n - 2) % 5 = 0)) : fwc c n = nI n := fwc_no (fb_none h) h1
theorem g0 {x : Int32} : gob 0 x ≠ 0 ↔ x = nI 101 := by
  unfold gob; rw [if_neg (by decide), if_pos rfl]; exact b01_n0
theorem g1 {x : Int32} : gob 1 x ≠ 0 ↔ dg x := by
  unfold gob dgb; rw [if_neg (by decide), if_neg (by decide), if_pos rfl]; exact b01_n0
theorem g2 {v : Nat} {x : Int32} (hv : v < 6) : gob (2 + 5 * v) x ≠ 0 ↔ x = nI 59 := by
  unfold gob; rw [if_neg (by omega), if_neg (by omega), if_neg (by omega), if_pos (by omega)]; exact b01_n0
theorem g3 {v : Nat} {x : Int32} (hv : v < 6) : gob (3 + 5 * v) x ≠ 0 ↔ isK x := by
  unfold gob; rw [if_neg (by omega), if_neg (by omega), if_neg (by omega), if_neg (by omega), if_pos (by omega)]; exact b01_n0
theorem g4 {v d : Nat} {x : Int32} (hv : v < 6) (h0 : 0 < d) (hd : d < 4) : gob (3 + 5 * v + d) x ≠ 0 ↔ dg x := by
  unfold gob dgb; rw [if_neg (by omega), if_neg (by omega), if_neg (by omega), if_neg (by omega), if_neg (by omega)]; exact b01_n0
theorem g32 {x : Int32} : gob 32 x = 0 := by unfold gob; rw [if_pos (by decide)]
theorem gpg (cel : Nat → Nat → Int32) (p e : Nat) {v d : Nat} (hv : v < 6) (hd : d < 4) : gp cel (p + 3 + 5 * v) e d ↔ (p + (3 + 5 * v + d) < e ∧ gob (3 + 5 * v + d) (rc cel p (3 + 5 * v + d)) ≠ 0) := by
  unfold gp
  rcases Nat.eq_zero_or_pos d with z | z
  · subst z
    rw [if_pos rfl]
    show (p + 3 + 5 * v + 0 < e ∧ isK (cf cel (p + 3 + 5 * v))) ↔ (p + (3 + 5 * v) < e ∧ gob (3 + 5 * v) (cf cel (p + (3 + 5 * v))) ≠ 0)
    rw [g3 hv, show p + (3 + 5 * v) = p + 3 + 5 * v by omega, Nat.add_zero]
  · rw [if_neg (by omega), g4 hv z hd]
    show (p + 3 + 5 * v + d < e ∧ dg (cf cel (p + 3 + 5 * v + d))) ↔ (p + (3 + 5 * v + d) < e ∧ dg (cf cel (p + (3 + 5 * v + d))))
    rw [show p + (3 + 5 * v + d) = p + 3 + 5 * v + d by omega]
def rcY (cel : Nat → Nat → Int32) (p e : Nat) (rs1 : Int32) (rn1 : Nat) (rk1 rh1 : Nat → Int32) : Prop := okT (rc cel p) (e - p) ∧ rs1 = nI (dv (rc cel p 1)) ∧ rn1 = (e - p - 2) / 5 ∧ (∀ j, j < rn1 → rk1 j = nI (tk (rc cel p) j)) ∧ ∀ j, j < 3 * rn1 → rh1 j = nI (th (rc cel p) j)
def rcN (cel : Nat → Nat → Int32) (p e p1 : Nat) : Prop := p ≤ p1 ∧ p1 ≤ e ∧ fwc (rc cel p) (e - p) = nI (p1 - p)
theorem rc_fail {cel : Nat → Nat → Int32} {p e a p1 : Nat} (h : ∀ j, j < a → gob j (rc cel p j) ≠ 0) (ha : p + a ≤ e) (hb : p + a < e → gob a (rc cel p a) = 0) (he : p + a = e → ¬ (12 ≤ a ∧ (a - 2) % 5 = 0)) (hp : p1 = p + a) : rcN cel p e p1 := by
  subst hp
  refine ⟨by omega, ha, ?_⟩
  rw [show p + a - p = a by omega]
  rcases Nat.lt_or_ge (p + a) e with z | z
  · exact stk_bad h (hb z) (by omega)
  · rw [show e - p = a by omega]; exact stk_end h (he (by omega))
theorem gz {k : Nat} {x : Int32} (h : ¬ gob k x ≠ 0) : gob k x = 0 := Decidable.not_not.mp h
theorem gos {cel : Nat → Nat → Int32} {p a : Nat} (h : ∀ j, j < a → gob j (rc cel p j) ≠ 0) (h1 : gob a (rc cel p a) ≠ 0) : ∀ j, j < a + 1 → gob j (rc cel p j) ≠ 0 := fun j hj => by
  rcases Nat.lt_or_ge j a with z | z
  · exact h j z
  · rw [show j = a by omega]; exact h1
theorem rc_0 {cel : Nat → Nat → Int32} {p e : Nat} (hpe : p ≤ e) (h : ¬ sgC cel p e (nI 101)) : rcN cel p e p :=
  rc_fail (a := 0) (fun _ z => absurd z (Nat.not_lt_zero _)) hpe (fun z => gz (fun w => h ⟨z, g0.mp w⟩)) (fun _ z => absurd z.1 (by decide)) rfl
theorem go1 {cel : Nat → Nat → Int32} {p e : Nat} (h : sgC cel p e (nI 101)) : ∀ j, j < 1 → gob j (rc cel p j) ≠ 0 := fun j hj => by
  rw [show j = 0 by omega]; exact g0.mpr h.2
theorem rc_1 {cel : Nat → Nat → Int32} {p e : Nat} (h : sgC cel p e (nI 101)) (h1 : ¬ dgC cel (p + 1) e) : rcN cel p e (p + 1) :=
  rc_fail (a := 1) (go1 h) h.1 (fun z => gz (fun w => h1 ⟨z, g1.mp w⟩)) (fun _ z => absurd z.1 (by decide)) rfl
theorem go2 {cel : Nat → Nat → Int32} {p e : Nat} (h : sgC cel p e (nI 101)) (h1 : dgC cel (p + 1) e) : ∀ j, j < 2 + 5 * 0 → gob j (rc cel p j) ≠ 0 := gos (go1 h) (g1.mpr h1.2)
theorem rc_2 {cel : Nat → Nat → Int32} {p e v : Nat} (hv : v < 6) (h : ∀ j, j < 2 + 5 * v → gob j (rc cel p j) ≠ 0) (hp : p + 2 + 5 * v ≤ e) (he : v < 2 ∨ p + 2 + 5 * v < e) (h1 : ¬ sgC cel (p + 2 + 5 * v) e (nI 59)) : rcN cel p e (p + 2 + 5 * v) :=
  rc_fail (a := 2 + 5 * v) h (by omega) (fun z => gz (fun w => h1 ⟨by omega, by rw [Nat.add_assoc]; exact (g2 hv).mp w⟩)) (fun q z => by omega) (by omega)
theorem go3 {cel : Nat → Nat → Int32} {p e v : Nat} (hv : v < 6) (h : ∀ j, j < 2 + 5 * v → gob j (rc cel p j) ≠ 0) (h1 : sgC cel (p + 2 + 5 * v) e (nI 59)) : ∀ j, j < 3 + 5 * v → gob j (rc cel p j) ≠ 0 := fun j hj =>
  gos h ((g2 hv).mpr (by have := h1.2; rw [Nat.add_assoc] at this; exact this)) j (by omega)
theorem go4 {cel : Nat → Nat → Int32} {p e v a : Nat} (hv : v < 6) (ha : a ≤ 4) (h : ∀ j, j < 3 + 5 * v → gob j (rc cel p j) ≠ 0) (h1 : ∀ d, d < a → gp cel (p + 3 + 5 * v) e d) : ∀ j, j < 3 + 5 * v + a → gob j (rc cel p j) ≠ 0 := fun j hj => by
  rcases Nat.lt_or_ge j (3 + 5 * v) with z | z
  · exact h j z
  · have := ((gpg cel p e hv (show j - (3 + 5 * v) < 4 by omega)).mp (h1 (j - (3 + 5 * v)) (by omega))).2
    rw [show 3 + 5 * v + (j - (3 + 5 * v)) = j by omega] at this
    exact this
theorem gp_e {cel : Nat → Nat → Int32} {q e a : Nat} (hq : q ≤ e) (h1 : ∀ d, d < a → gp cel q e d) : q + a ≤ e := by
  rcases Nat.eq_zero_or_pos a with z | z
  · omega
  · have := (h1 (a - 1) (by omega)).1; omega
theorem rc_3 {cel : Nat → Nat → Int32} {p e v a p1 : Nat} (hv : v < 6) (ha : a < 4 ∧ ¬ gp cel (p + 3 + 5 * v) e a) (h : ∀ j, j < 3 + 5 * v → gob j (rc cel p j) ≠ 0) (hq : p + 3 + 5 * v ≤ e) (h1 : ∀ d, d < a → gp cel (p + 3 + 5 * v) e d) (hp : p1 = p + 3 + 5 * v + a) : rcN cel p e p1 := by
  have he := gp_e hq h1
  refine rc_fail (a := 3 + 5 * v + a) (go4 hv (by omega) h h1) (by omega) (fun z => gz (fun w => ha.2 ((gpg cel p e hv ha.1).mpr ⟨z, w⟩))) (fun q z => by have := ha.1; omega) (by omega)
theorem rc_6 {cel : Nat → Nat → Int32} {p e v : Nat} (hv : v = 6) (h : ∀ j, j < 2 + 5 * v → gob j (rc cel p j) ≠ 0) (hp : p + 2 + 5 * v ≤ e) (hn : ¬ p + 2 + 5 * v = e) : rcN cel p e (p + 2 + 5 * v) := by
  subst hv
  exact rc_fail (a := 32) h (by omega) (fun _ => g32) (fun q _ => by omega) (by omega)
theorem rc_y {cel : Nat → Nat → Int32} {p e v : Nat} {rq rz : Nat → Int32} (h2 : 2 ≤ v) (hv : v ≤ 6) (h : ∀ j, j < 2 + 5 * v → gob j (rc cel p j) ≠ 0) (hn : p + 2 + 5 * v = e) (hd : dgC cel (p + 1) e) (hk : ∀ j, j < v → rq j = nI (tk (rc cel p) j)) (hh : ∀ j, j < 3 * v → rz j = nI (th (rc cel p) j)) : rcY cel p e (dgR cel (p + 1) e) v rq rz := by
  refine ⟨⟨fun j hj => h j (by omega), by omega, by omega, by omega⟩, (dgR_y hd).symm, by omega, hk, hh⟩
theorem rk_st {cel : Nat → Nat → Int32} {p e v a : Nat} {rq rz rk1 rh1 : Nat → Int32} (ha : a = 4) (hr : rpR cel (p + 3 + 5 * v) e v rq rz a rk1 rh1) (hk : ∀ j, j < v → rq j = nI (tk (rc cel p) j)) : ∀ j, j < v + 1 → rk1 j = nI (tk (rc cel p) j) := fun j hj => by
  rcases Nat.lt_or_ge j v with z | z
  · rw [hr.2.1 j z]; exact hk j z
  · obtain rfl : j = v := by omega
    rw [(hr.2.2.2 ha).1]
    show nI (kl (cf cel (p + 3 + 5 * j))) = nI (kl (cf cel (p + (3 + 5 * j))))
    rw [Nat.add_assoc]
theorem rh_st {cel : Nat → Nat → Int32} {p e v a : Nat} {rq rz rk1 rh1 : Nat → Int32} (ha : a = 4) (hr : rpR cel (p + 3 + 5 * v) e v rq rz a rk1 rh1) (hh : ∀ j, j < 3 * v → rz j = nI (th (rc cel p) j)) : ∀ j, j < 3 * (v + 1) → rh1 j = nI (th (rc cel p) j) := fun j hj => by
  rcases Nat.lt_or_ge j (3 * v) with z | z
  · rw [hr.2.2.1 j z]; exact hh j z
  · obtain ⟨d, hd, rfl⟩ : ∃ d, d < 3 ∧ j = 3 * v + d := ⟨j - 3 * v, by omega, by omega⟩
    rw [(hr.2.2.2 ha).2 d hd, th_at _ hd]
    show nI (dv (cf cel (p + 3 + 5 * v + 1 + d))) = nI (dv (cf cel (p + (4 + 5 * v + d))))
    rw [show p + (4 + 5 * v + d) = p + 3 + 5 * v + 1 + d by omega]
