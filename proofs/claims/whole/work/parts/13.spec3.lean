/-! sheets, readings, voyages: what their methods do -/
def cutI (la v : Int32) : Int32 := if la = nI 0 then v.toInt8.toInt32 else if la = nI 1 then v.toInt16.toInt32 else v
def isC (le : Nat) (i n : Int32) : Prop := ∃ a b, i = nI a ∧ n = nI b ∧ a + b ≤ le
def filI (f g : Nat → Int32) (n : Nat) : Nat → Int32 := fun j => if j < n then f j else g j
theorem filI_up (f g : Nat → Int32) (i : Nat) : upd (filI f g i) i (f i) = filI f g (i + 1) := by
  funext j
  unfold upd filI
  by_cases h : j = i
  · rw [if_pos h, if_pos (by omega), h]
  · rw [if_neg h]
    by_cases h2 : j < i
    · rw [if_pos h2, if_pos (by omega)]
    · rw [if_neg h2, if_neg (by omega)]
theorem filI_0 (f g : Nat → Int32) : filI f g 0 = g := by
  funext j
  unfold filI
  rw [if_neg (by omega)]
theorem filI_in {f g : Nat → Int32} {n j : Nat} (h : j < n) : filI f g n j = f j := if_pos h
/-- all readings are so -/
def so (F rd : Nat → Nat) : Nat → Nat
  | 0 => 1
  | n + 1 => if so F rd n = 0 then 0 else if F n = rd n then 1 else 0
theorem so_le (F rd : Nat → Nat) : ∀ n, so F rd n ≤ 1
  | 0 => Nat.le_refl _
  | n + 1 => by rw [so]; split <;> (try split) <;> omega
theorem so_stay {F rd : Nat → Nat} {i : Nat} (h : so F rd i = 0) : ∀ n, i ≤ n → so F rd n = 0
  | 0, hn => by rw [Nat.le_zero.mp hn] at h; exact h
  | n + 1, hn => by
    rcases Nat.lt_or_ge i (n + 1) with c | c
    · rw [so, if_pos (so_stay h n (by omega))]
    · rw [← Nat.le_antisymm hn c]; exact h
theorem so_bad {F rd : Nat → Nat} {i : Nat} (h : F i ≠ rd i) : so F rd (i + 1) = 0 := by
  rw [so]
  by_cases z : so F rd i = 0
  · rw [if_pos z]
  · rw [if_neg z, if_neg h]
theorem so_go {F rd : Nat → Nat} {i : Nat} (h : so F rd i = 1) (h2 : F i = rd i) : so F rd (i + 1) = 1 := by
  rw [so, if_neg (by omega), if_pos h2]
theorem so_congr {F F' rd : Nat → Nat} : ∀ {n : Nat}, (∀ j, j < n → F j = F' j) → so F rd n = so F' rd n
  | 0, _ => rfl
  | n + 1, h => by rw [so, so, so_congr (fun j hj => h j (by omega)), h n (by omega)]
/-- what is refused of the pairs -/
def rf (np : Nat) (vp vm : Nat → Int32) : Nat → Int32
  | 0 => nI 0
  | n + 1 => if rf np vp vm n ≠ nI 0 then rf np vp vm n else if ¬ isP np (vp n) then -1 else if ¬ isP 10 (vm n) then -2 else nI 0
theorem rf_stay {np : Nat} {vp vm : Nat → Int32} {i : Nat} (h : rf np vp vm i ≠ nI 0) : ∀ n, i ≤ n → rf np vp vm n = rf np vp vm i
  | 0, hn => by rw [Nat.le_zero.mp hn]
  | n + 1, hn => by
    rcases Nat.lt_or_ge i (n + 1) with c | c
    · have e := rf_stay h n (by omega)
      rw [rf, if_pos (by rw [e]; exact h), e]
    · rw [Nat.le_antisymm hn c]
theorem rf_1 {np : Nat} {vp vm : Nat → Int32} {i n : Nat} (h : rf np vp vm i = nI 0) (h1 : ¬ isP np (vp i)) (hn : i < n) : rf np vp vm n = -1 := by
  have e : rf np vp vm (i + 1) = -1 := by rw [rf, if_neg (by rw [h]; exact fun z => z rfl), if_pos h1]
  rw [rf_stay (i := i + 1) (by rw [e]; decide) n (by omega), e]
theorem rf_2 {np : Nat} {vp vm : Nat → Int32} {i n : Nat} (h : rf np vp vm i = nI 0) (h1 : isP np (vp i)) (h2 : ¬ isP 10 (vm i)) (hn : i < n) : rf np vp vm n = -2 := by
  have e : rf np vp vm (i + 1) = -2 := by rw [rf, if_neg (by rw [h]; exact fun z => z rfl), if_neg (fun z => z h1), if_pos h2]
  rw [rf_stay (i := i + 1) (by rw [e]; decide) n (by omega), e]
theorem rf_go {np : Nat} {vp vm : Nat → Int32} {i : Nat} (h : rf np vp vm i = nI 0) (h1 : isP np (vp i)) (h2 : isP 10 (vm i)) : rf np vp vm (i + 1) = nI 0 := by
  rw [rf, if_neg (by rw [h]; exact fun z => z rfl), if_neg (fun z => z h1), if_neg (fun z => z h2)]
theorem rf_all {np : Nat} {vp vm : Nat → Int32} : ∀ {n : Nat}, rf np vp vm n = nI 0 → ∀ k, k < n → isP np (vp k) ∧ isP 10 (vm k)
  | 0, _, k, hk => absurd hk (Nat.not_lt_zero k)
  | n + 1, h, k, hk => by
    have h0 : rf np vp vm n = nI 0 := by
      by_cases z : rf np vp vm n = nI 0
      · exact z
      · rw [rf, if_pos z] at h; exact absurd h z
    by_cases h1 : isP np (vp n)
    · by_cases h2 : isP 10 (vm n)
      · rcases Nat.lt_or_ge k n with c | c
        · exact rf_all h0 k c
        · rw [show k = n by omega]; exact ⟨h1, h2⟩
      · rw [rf_2 h0 h1 h2 (Nat.lt_succ_self n)] at h; exact absurd h (by decide)
    · rw [rf_1 h0 h1 (Nat.lt_succ_self n)] at h; exact absurd h (by decide)
theorem rf_congr {np : Nat} {vp vm vp' vm' : Nat → Int32} : ∀ {n : Nat}, (∀ j, j < n → vp j = vp' j ∧ vm j = vm' j) → rf np vp vm n = rf np vp' vm' n
  | 0, _ => rfl
  | n + 1, h => by rw [rf, rf, rf_congr (fun j hj => h j (by omega)), (h n (by omega)).1, (h n (by omega)).2]
/-- the first pair whose months are less than those ahead -/
def wv (vm : Nat → Int32) : Nat → Option Nat
  | 0 => none
  | n + 1 => match wv vm n with
    | some k => some k
    | none => if 0 < n ∧ vm n < vm (n - 1) then some n else none
theorem wv_stay {vm : Nat → Int32} {i k : Nat} (h : wv vm i = some k) : ∀ n, i ≤ n → wv vm n = some k
  | 0, hn => by rw [Nat.le_zero.mp hn] at h; exact h
  | n + 1, hn => by
    rcases Nat.lt_or_ge i (n + 1) with c | c
    · rw [wv, wv_stay h n (by omega)]
    · rw [← Nat.le_antisymm hn c]; exact h
theorem wv_bad {vm : Nat → Int32} {i n : Nat} (h : wv vm i = none) (h0 : 0 < i) (h1 : vm i < vm (i - 1)) (hn : i < n) : wv vm n = some i :=
  wv_stay (i := i + 1) (by rw [wv, h]; exact if_pos ⟨h0, h1⟩) n (by omega)
theorem wv_go {vm : Nat → Int32} {i : Nat} (h : wv vm i = none) (h1 : ¬ (0 < i ∧ vm i < vm (i - 1))) : wv vm (i + 1) = none := by
  rw [wv, h]; exact if_neg h1
theorem wv_lt {vm : Nat → Int32} : ∀ {n k : Nat}, wv vm n = some k → k < n
  | 0, k, h => by cases h
  | n + 1, k, h => by
    rw [wv] at h
    split at h
    · rename_i k' e
      have := wv_lt e
      cases h; omega
    · split at h
      · cases h; omega
      · cases h
theorem wv_congr {vm vm' : Nat → Int32} : ∀ {n : Nat}, (∀ j, j < n → vm j = vm' j) → wv vm n = wv vm' n
  | 0, _ => rfl
  | n + 1, h => by
    rw [wv, wv, wv_congr (fun j hj => h j (by omega)), h n (by omega), h (n - 1) (by omega)]
/-- the first of a set -/
def fo (b : Nat) : Nat → Option Nat
  | 0 => none
  | n + 1 => match fo b n with
    | some k => some k
    | none => if b &&& 2 ^ n ≠ 0 then some n else none
theorem fo_stay {b i k : Nat} (h : fo b i = some k) : ∀ n, i ≤ n → fo b n = some k
  | 0, hn => by rw [Nat.le_zero.mp hn] at h; exact h
  | n + 1, hn => by
    rcases Nat.lt_or_ge i (n + 1) with c | c
    · rw [fo, fo_stay h n (by omega)]
    · rw [← Nat.le_antisymm hn c]; exact h
theorem fo_bad {b i n : Nat} (h : fo b i = none) (h1 : b &&& 2 ^ i ≠ 0) (hn : i < n) : fo b n = some i :=
  fo_stay (i := i + 1) (by rw [fo, h]; exact if_pos h1) n (by omega)
theorem fo_go {b i : Nat} (h : fo b i = none) (h1 : b &&& 2 ^ i = 0) : fo b (i + 1) = none := by
  rw [fo, h]; exact if_neg (fun z => z h1)
theorem hC_yes {le : Nat} (hle : le ≤ 60) {i n : Int32} (h1 : ¬ i < 0) (h2 : ¬ nI le < i) (h3 : ¬ n < 0) (h4 : ¬ nI le - i < n) : ∃ a b, i = nI a ∧ n = nI b ∧ a + b ≤ le := by
  obtain ⟨a, ha, rfl⟩ := nI_btw (n := le) (by omega) h1 (Int32.not_lt.mp h2)
  rw [pk_sub ha] at h4
  obtain ⟨b, hb, rfl⟩ := nI_btw (n := le - a) (by omega) h3 (Int32.not_lt.mp h4)
  exact ⟨a, b, rfl, rfl, by omega⟩
theorem hC_1 {le : Nat} {i n : Int32} (hle : le ≤ 60) (h : i < 0) : ¬ isC le i n := fun ⟨a, b, h1, h2, h3⟩ => absurd h (by rw [h1]; exact nI_pos (by omega))
theorem hC_2 {le : Nat} {i n : Int32} (hle : le ≤ 60) (h : nI le < i) : ¬ isC le i n := fun ⟨a, b, h1, h2, h3⟩ => by
  rw [h1] at h
  have := (nI_ltI (by omega) (by omega)).mp h
  omega
theorem hC_3 {le : Nat} {i n : Int32} (hle : le ≤ 60) (h : n < 0) : ¬ isC le i n := fun ⟨a, b, h1, h2, h3⟩ => absurd h (by rw [h2]; exact nI_pos (by omega))
theorem hC_4 {le : Nat} {i n : Int32} (hle : le ≤ 60) (h : nI le - i < n) : ¬ isC le i n := fun ⟨a, b, h1, h2, h3⟩ => by
  rw [h1, h2, pk_sub (by omega)] at h
  have := (nI_ltI (by omega) (by omega)).mp h
  omega
