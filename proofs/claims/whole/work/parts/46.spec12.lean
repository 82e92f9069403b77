/-! rows of the model's coast and voyages -/
theorem rc_row (cel : Nat → Nat → Int32) {k a z : Nat} (h : a + z < 60) : rc cel (60 * k + a) z = cel k (a + z) := by
  show cel ((60 * k + a + z) / 60) ((60 * k + a + z) % 60) = cel k (a + z)
  rw [show (60 * k + a + z) / 60 = k by omega, show (60 * k + a + z) % 60 = a + z by omega]
theorem fb_congr {f f' : Nat → Nat} : ∀ {n : Nat}, (∀ j, j < n → f j = f' j) → fb f n = fb f' n
  | 0, _ => rfl
  | n + 1, h => by rw [fb, fb, fb_congr (fun j hj => h j (by omega)), h n (by omega)]
theorem fwc_congr {c c' : Nat → Int32} {n : Nat} (h : ∀ j, j < n → c j = c' j) : fwc c n = fwc c' n := by
  unfold fwc
  rw [fb_congr (f := tx c) (f' := tx c') (fun j hj => by show gob j (c j) = gob j (c' j); rw [h j hj])]
theorem rcN_row {cel : Nat → Nat → Int32} {k a b p1 : Nat} (h60 : a + b ≤ 60) (h : rcN cel (60 * k + a) (60 * k + a + b) p1) : 60 * k + a ≤ p1 ∧ fwc (fun z => cel k (a + z)) b = nI (p1 - (60 * k + a)) ∧ ¬ fwc (fun z => cel k (a + z)) b = -9 := by
  obtain ⟨h1, h2, h3⟩ := h
  rw [show 60 * k + a + b - (60 * k + a) = b by omega, fwc_congr (c' := fun z => cel k (a + z)) (fun j hj => rc_row cel (by omega))] at h3
  exact ⟨h1, h3, by rw [h3]; exact nI_ne9 (by omega)⟩
theorem rcY_row {cel : Nat → Nat → Int32} {k a b rn : Nat} {rs : Int32} {rk rh : Nat → Int32} (h60 : a + b ≤ 60) (h : rcY cel (60 * k + a) (60 * k + a + b) rs rn rk rh) : okT (fun z => cel k (a + z)) b ∧ rs = nI (dv (cel k (a + 1))) ∧ rn = (b - 2) / 5 ∧ (∀ j, j < (b - 2) / 5 → rk j = nI (tk (fun z => cel k (a + z)) j)) ∧ ∀ j, j < 3 * ((b - 2) / 5) → rh j = nI (th (fun z => cel k (a + z)) j) := by
  obtain ⟨h1, h2, h3, h4, h5⟩ := h
  have eb : 60 * k + a + b - (60 * k + a) = b := by omega
  rw [eb] at h1 h3
  have hb := h1.2
  have e : ∀ j, j < b → rc cel (60 * k + a) j = cel k (a + j) := fun j hj => rc_row cel (by omega)
  refine ⟨⟨fun j hj => ?_, hb⟩, ?_, h3, fun j hj => ?_, fun j hj => ?_⟩
  · have := h1.1 j hj
    rw [e j hj] at this
    exact this
  · rw [h2, e 1 (by omega)]
  · rw [h4 j (by omega)]
    unfold tk
    rw [e (3 + 5 * j) (by omega)]
  · rw [h5 j (by omega)]
    unfold th
    rw [e (4 + 5 * (j / 3) + j % 3) (by omega)]
theorem sumk_0 {f : Nat → Nat} {j : Nat} (h : f j = 0) : sumk f (j + 1) = sumk f j := by rw [sumk, h, Nat.add_zero]
theorem f1_0 {f : Nat → Nat} {j : Nat} (h : f j = 0) : f1 f (j + 1) = f1 f j := by
  rw [f1, h]
  cases f1 f j <;> rfl
theorem f1_n {f : Nat → Nat} {j : Nat} (h : f1 f j = none) (h1 : f j ≠ 0) : f1 f (j + 1) = some j := by
  rw [f1, h]; exact if_pos h1
theorem f1_s {f : Nat → Nat} {j b : Nat} (h : f1 f j = some b) : f1 f (j + 1) = some b := by rw [f1, h]
theorem f1_lt {f : Nat → Nat} : ∀ {n b : Nat}, f1 f n = some b → b < n
  | 0, b, h => by cases h
  | n + 1, b, h => by
    cases e : f1 f n with
    | none =>
      by_cases z : f n ≠ 0
      · rw [f1_n e z] at h; cases h; omega
      · rw [f1_0 (Decidable.not_not.mp z), e] at h; cases h
    | some k =>
      rw [f1_s e] at h
      have := f1_lt e
      cases h; omega
theorem sumk_le1 {f : Nat → Nat} (h : ∀ k, f k ≤ 1) (n : Nat) : sumk f n ≤ n := by have := sumk_le h n; omega
/-- what the model has of the pairs below j -/
def gvT (T G pp : Nat → Nat) (j : Nat) (tq : Nat → Int32) : Prop := ∀ p, p < 6 → tq p = nI (sumk (fun k => T k * b01 (pp k = p)) j)
theorem gvT_0 {T G pp : Nat → Nat} {j : Nat} {tq : Nat → Int32} (h : gvT T G pp j tq) (h1 : T j = 0) : gvT T G pp (j + 1) tq := fun p hp => by
  rw [h p hp, sumk_0 (by show T j * _ = 0; rw [h1, Nat.zero_mul])]
theorem gvT_1 {T G pp : Nat → Nat} {j : Nat} {tq : Nat → Int32} (h : gvT T G pp j tq) (h1 : T j = 1) : gvT T G pp (j + 1) (upd tq (pp j) (nI (sumk (fun k => T k * b01 (pp k = pp j)) j + 1))) := fun p hp => by
  unfold upd
  by_cases e : p = pp j
  · rw [if_pos e, e, sumk]
    show _ = nI (_ + T j * b01 (pp j = pp j))
    rw [h1, b01_t rfl]
  · rw [if_neg e, h p hp, sumk_0 (by show T j * b01 (pp j = p) = 0; rw [b01_f (fun z => e z.symm), Nat.mul_zero])]
theorem gv_l0 {T : Nat → Nat} (hT : ∀ k, T k ≤ 1) {j : Nat} (h : T j = 0) : nI (j + 1 - sumk T (j + 1)) = nI (j - sumk T j + 1) := by
  have := sumk_le1 hT j
  rw [sumk_0 h]; congr 1; omega
theorem gv_l1 {T : Nat → Nat} {j : Nat} (h : T j = 1) : nI (j + 1 - sumk T (j + 1)) = nI (j - sumk T j) := by
  rw [sumk, h]; congr 1; omega
theorem gv_g1 {T G : Nat → Nat} {j : Nat} (h : T j = 1) : sumk (fun k => T k * G k) (j + 1) = sumk (fun k => T k * G k) j + G j := by
  rw [sumk, h, Nat.one_mul]
theorem gv_g0 {T G : Nat → Nat} {j : Nat} (h : T j = 0) : sumk (fun k => T k * G k) (j + 1) = sumk (fun k => T k * G k) j := sumk_0 (by show T j * _ = 0; rw [h, Nat.zero_mul])
/-- all pairs that are told -/
def gvP (T G pp : Nat → Nat) (n : Nat) (u : Int32 × Int32 × Int32 × (Nat → Int32)) : Prop := u.1 = nI (n - sumk T n) ∧ u.2.1 = enc (f1 T n) ∧ u.2.2.1 = nI (sumk (fun k => T k * G k) n) ∧ gvT T G pp n u.2.2.2
theorem pair_row (cel : Nat → Nat → Int32) {k a b z : Nat} (h60 : a + b ≤ 60) (hz : z < b) : cf cel (60 * k + a + z) = cel k (a + z) := rc_row cel (by omega)
theorem gv_tell {np W n : Nat} {T G pp : Nat → Nat} {u : Int32 × Int32 × Int32 × (Nat → Int32)} (hnp : np ≤ 6) (hw : W < 4 ∨ (10 ≤ W ∧ W < 16)) (h1 : W ≠ 1) (h : gvP T G pp n u) : (if 10 ≤ W then (if W - 10 < np then u.2.2.2 (W - 10) else -9) else if W = 0 then u.1 else if W = 2 then u.2.1 else u.2.2.1) = (if W = 0 then nI (n - sumk T n) else if W = 2 then enc (f1 T n) else if W = 3 then nI (sumk (fun k => T k * G k) n) else if W - 10 < np then nI (sumk (fun k => T k * b01 (pp k = W - 10)) n) else -9) := by
  obtain ⟨a, b, c, d⟩ := h
  rcases hw with hw | hw
  · rw [if_neg (show ¬ 10 ≤ W by omega)]
    by_cases e0 : W = 0
    · rw [if_pos e0, if_pos e0, a]
    · rw [if_neg e0, if_neg e0]
      by_cases e2 : W = 2
      · rw [if_pos e2, if_pos e2, b]
      · rw [if_neg e2, if_neg e2, if_pos (show W = 3 by omega), c]
  · rw [if_pos hw.1, if_neg (show ¬ W = 0 by omega), if_neg (show ¬ W = 2 by omega), if_neg (show ¬ W = 3 by omega)]
    by_cases e : W - 10 < np
    · rw [if_pos e, if_pos e, d _ (by omega)]
    · rw [if_neg e, if_neg e]
