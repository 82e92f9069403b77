/-! loops, as functions of how far they are -/
def alb (sl : Nat) (hg : Nat → Nat) (p q : Nat) : Nat := b01 (al hg p q ≤ sl)
def likb (sl : Nat) (hg : Nat → Nat) (p q : Nat) : Nat := b01 (q ≠ p ∧ al hg p q ≤ sl)
def lset (np sl : Nat) (hg : Nat → Nat) (p : Nat) : Nat := bset (likb sl hg p) np
theorem lset_lt (np sl : Nat) (hg : Nat → Nat) (p : Nat) : lset np sl hg p < 2 ^ np := bset_lt _ _
def enc : Option Nat → Int32
  | none => -9
  | some b => nI b
def mtb (sl : Nat) (f : Nat → Nat) : Nat → Option Nat
  | 0 => none
  | n + 1 => match mtb sl f n with
    | none => if f n ≤ sl then some n else none
    | some b => if f n < f b then some n else some b
def mtl (sl : Nat) (f : Nat → Nat) (n : Nat) : Nat := match mtb sl f n with
  | none => sl + 1
  | some b => f b
theorem mtb_no {sl : Nat} {f : Nat → Nat} {n : Nat} (h : mtl sl f n ≤ f n) : mtb sl f (n + 1) = mtb sl f n := by
  unfold mtl at h
  rw [mtb]
  split <;> rename_i e <;> rw [e] at h
  · rw [if_neg (by simp only at h; omega), e]
  · rw [if_neg (by simp only at h; omega), e]
theorem mtb_yes {sl : Nat} {f : Nat → Nat} {n : Nat} (h : f n < mtl sl f n) : mtb sl f (n + 1) = some n := by
  unfold mtl at h
  rw [mtb]
  split <;> rename_i e <;> rw [e] at h
  · rw [if_pos (by simp only at h; omega)]
  · rw [if_pos (by simp only at h; omega)]
theorem mtl_no {sl : Nat} {f : Nat → Nat} {n : Nat} (h : mtl sl f n ≤ f n) : mtl sl f (n + 1) = mtl sl f n := by
  have e := mtb_no h
  unfold mtl; rw [e]
theorem mtl_yes {sl : Nat} {f : Nat → Nat} {n : Nat} (h : f n < mtl sl f n) : mtl sl f (n + 1) = f n := by
  have e := mtb_yes h
  unfold mtl; rw [e]
theorem mtb_le {sl : Nat} {f : Nat → Nat} : ∀ {n b : Nat}, mtb sl f n = some b → b < n ∧ f b ≤ sl
  | 0, b, h => by cases h
  | n + 1, b, h => by
    rcases Nat.lt_or_ge (f n) (mtl sl f n) with c | c
    · rw [mtb_yes c] at h
      cases h
      refine ⟨Nat.lt_succ_self _, ?_⟩
      unfold mtl at c
      split at c
      · omega
      · rename_i b' e
        have := (mtb_le e).2
        omega
    · rw [mtb_no c] at h
      have := mtb_le h
      exact ⟨by omega, this.2⟩
theorem mtl_le {sl : Nat} {f : Nat → Nat} (n : Nat) : mtl sl f n ≤ sl + 1 := by
  unfold mtl
  split
  · omega
  · rename_i b e
    have := (mtb_le e).2
    omega
def pm : Nat → Int32
  | 0 => -1
  | k + 1 => nI k
theorem pm_neg {i : Nat} (hi : i < 2 ^ 31) (h : pm i < 0) : i = 0 := by
  cases i with
  | zero => rfl
  | succ k => exact absurd h (nI_pos (by omega))
theorem pm_pos {i : Nat} (h : ¬ pm i < 0) : ∃ k, i = k + 1 := by
  cases i with
  | zero => exact absurd (by decide) h
  | succ k => exact ⟨k, rfl⟩
theorem pm_dec (k : Nat) : nI k + Int32.ofInt (-1) = pm k := by
  cases k with
  | zero => decide
  | succ k => show nI (k + 1) + (-1) = nI k; exact pk_m1 k
def lgd (f : Nat → Nat) : Nat → Option Nat
  | 0 => none
  | n + 1 => if f n = 0 then lgd f n else some n
/-- no p below n that is in b has one of L p in b -/
def nl (b : Nat) (L : Nat → Nat) : Nat → Nat
  | 0 => 1
  | n + 1 => if nl b L n = 0 then 0 else if b &&& 2 ^ n ≠ 0 ∧ L n &&& b ≠ 0 then 0 else 1
theorem nl_le (b : Nat) (L : Nat → Nat) : ∀ n, nl b L n ≤ 1
  | 0 => Nat.le_refl _
  | n + 1 => by rw [nl]; split <;> (try split) <;> omega
theorem nl_stay {b : Nat} {L : Nat → Nat} {i : Nat} (h : nl b L i = 0) : ∀ n, i ≤ n → nl b L n = 0
  | 0, hn => by rw [Nat.le_zero.mp hn] at h; exact h
  | n + 1, hn => by
    rcases Nat.lt_or_ge i (n + 1) with c | c
    · rw [nl, if_pos (nl_stay h n (by omega))]
    · rw [← Nat.le_antisymm hn c]; exact h
theorem nl_bad {b : Nat} {L : Nat → Nat} {i : Nat} (h1 : b &&& 2 ^ i ≠ 0) (h2 : L i &&& b ≠ 0) : nl b L (i + 1) = 0 := by
  rw [nl]; split
  · rfl
  · rw [if_pos ⟨h1, h2⟩]
theorem nl_go {b : Nat} {L : Nat → Nat} {i : Nat} (h : nl b L i = 1) (h2 : ¬ (b &&& 2 ^ i ≠ 0 ∧ L i &&& b ≠ 0)) : nl b L (i + 1) = 1 := by
  rw [nl, if_neg (by omega), if_neg h2]
theorem nl_congr {b : Nat} {L L' : Nat → Nat} : ∀ {n : Nat}, (∀ j, j < n → L j = L' j) → nl b L n = nl b L' n
  | 0, _ => rfl
  | n + 1, h => by rw [nl, nl, nl_congr (fun j hj => h j (by omega)), h n (by omega)]
def fil (f g : Nat → Nat) (n : Nat) : Nat → Nat := fun j => if j < n then f j else g j
theorem fil_up (f g : Nat → Nat) (i : Nat) : va_up (fil f g i) i (f i) = fil f g (i + 1) := by
  funext j
  unfold va_up fil
  by_cases h : j = i
  · rw [if_pos h, if_pos (by omega), h]
  · rw [if_neg h]
    by_cases h2 : j < i
    · rw [if_pos h2, if_pos (by omega)]
    · rw [if_neg h2, if_neg (by omega)]
theorem fil_0 (f g : Nat → Nat) : fil f g 0 = g := by
  funext j
  unfold fil
  rw [if_neg (by omega)]
theorem fil_in {f g : Nat → Nat} {n j : Nat} (h : j < n) : fil f g n j = f j := if_pos h
def frb (L : Nat → Nat) (b q : Nat) : Nat := b01 (L q &&& b ≠ 0)
theorem bset_congr {f f' : Nat → Nat} : ∀ {n : Nat}, (∀ j, j < n → f j = f' j) → bset f n = bset f' n
  | 0, _ => rfl
  | n + 1, h => by rw [bset, bset, bset_congr (fun j hj => h j (by omega)), h n (by omega)]
/-- how many bits -/
def pcf : Nat → Nat → Nat
  | 0, _ => 0
  | f + 1, n => n % 2 + pcf f (n / 2)
def pc (n : Nat) : Nat := pcf 32 n
theorem pcf_le : ∀ (f k n : Nat), n < 2 ^ k → pcf f n ≤ k
  | 0, k, n, _ => Nat.zero_le _
  | f + 1, 0, n, h => by
    have h0 : n = 0 := by omega
    subst h0
    have := pcf_le f 0 0 (by decide)
    rw [pcf, Nat.zero_div]; omega
  | f + 1, k + 1, n, h => by
    have := pcf_le f k (n / 2) (by rw [Nat.pow_succ] at h; omega)
    rw [pcf]; omega
theorem pc_le {k n : Nat} (h : n < 2 ^ k) : pc n ≤ k := pcf_le 32 k n h
theorem pc_32 (n : Nat) : pc n ≤ 32 := by
  have key : ∀ f n, pcf f n ≤ f := fun f => by
    induction f with
    | zero => intro n; exact Nat.le_refl _
    | succ f ih => intro n; have := ih (n / 2); rw [pcf]; omega
  exact key 32 n
def ms (L : Nat → Nat) (np : Nat) : Nat → Nat
  | 0 => 0
  | n + 1 => if pc (ms L np n) < pc n ∧ nl n L np ≠ 0 then n else ms L np n
theorem ms_le (L : Nat → Nat) (np : Nat) : ∀ n, ms L np n ≤ n
  | 0 => Nat.le_refl _
  | n + 1 => by
    have := ms_le L np n
    rw [ms]; split <;> omega
theorem ms_lt (L : Nat → Nat) (np : Nat) {n M : Nat} (h : n ≤ M) (h0 : 0 < M) : ms L np n < M := by
  induction n with
  | zero => exact h0
  | succ n ih =>
    rw [ms]; split
    · omega
    · exact ih (by omega)
def fw (L : Nat → Nat) (np : Nat) : Nat → Option Nat
  | 0 => none
  | n + 1 => match fw L np n with
    | none => if bset (frb L n) np = 2 ^ np - 1 then some n else none
    | some b => if pc n < pc b ∧ bset (frb L n) np = 2 ^ np - 1 then some n else some b
def fwl (L : Nat → Nat) (np n : Nat) : Nat := match fw L np n with
  | none => np + 1
  | some b => pc b
theorem fw_yes {L : Nat → Nat} {np n : Nat} (h : pc n < fwl L np n) (h2 : bset (frb L n) np = 2 ^ np - 1) : fw L np (n + 1) = some n := by
  unfold fwl at h
  rw [fw]
  split <;> rename_i e <;> rw [e] at h
  · rw [if_pos h2]
  · rw [if_pos ⟨h, h2⟩]
theorem fw_no2 {L : Nat → Nat} {np n : Nat} (h2 : ¬ bset (frb L n) np = 2 ^ np - 1) : fw L np (n + 1) = fw L np n := by
  rw [fw]
  split
  · rename_i e; rw [if_neg h2, e]
  · rename_i e; rw [if_neg (fun z => h2 z.2), e]
theorem fw_no1 {L : Nat → Nat} {np n : Nat} (hn : n < 2 ^ np) (h : fwl L np n ≤ pc n) : fw L np (n + 1) = fw L np n := by
  have h3 := pc_le hn
  unfold fwl at h
  rw [fw]
  split <;> rename_i e <;> rw [e] at h
  · exact absurd h (by simp only; omega)
  · rw [if_neg (fun z => by simp only at h; omega), e]
theorem fwl_eq {L : Nat → Nat} {np n : Nat} (h : fw L np (n + 1) = fw L np n) : fwl L np (n + 1) = fwl L np n := by unfold fwl; rw [h]
theorem fwl_yes {L : Nat → Nat} {np n : Nat} (h : fw L np (n + 1) = some n) : fwl L np (n + 1) = pc n := by unfold fwl; rw [h]
theorem fwl_le (L : Nat → Nat) {np : Nat} (hnp : np ≤ 6) (n : Nat) : fwl L np n ≤ 32 := by
  unfold fwl
  split
  · omega
  · exact pc_32 _
theorem fw_congr {L L' : Nat → Nat} {np : Nat} (h : ∀ j, j < np → L j = L' j) : ∀ n, fw L np n = fw L' np n
  | 0 => rfl
  | n + 1 => by
    have e : bset (frb L n) np = bset (frb L' n) np := bset_congr (fun j hj => by unfold frb; rw [h j hj])
    rw [fw, fw, fw_congr h n, e]
theorem ms_congr {L L' : Nat → Nat} {np : Nat} (h : ∀ j, j < np → L j = L' j) : ∀ n, ms L np n = ms L' np n
  | 0 => rfl
  | n + 1 => by rw [ms, ms, ms_congr h n, nl_congr h]
theorem and_lt {a b c : Nat} (h : b < c) : a &&& b < c := Nat.lt_of_le_of_lt Nat.and_le_right h
theorem and_lt' {a b c : Nat} (h : a < c) : a &&& b < c := Nat.lt_of_le_of_lt Nat.and_le_left h
theorem bt_ltE (b k : Nat) : bt b k < 2 ^ (k + 1) := bt_lt
theorem fitb_le (sl : Nat) (kd hg : Nat → Nat) (u q m : Nat) : fitb sl kd hg u q m ≤ 1 := b01_le _
theorem alb_le (sl : Nat) (hg : Nat → Nat) (p q : Nat) : alb sl hg p q ≤ 1 := b01_le _
