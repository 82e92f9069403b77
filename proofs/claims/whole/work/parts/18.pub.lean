/-! what the calls answer -/
abbrev tN (x : Int32) : Nat := x.toNatClampNeg
theorem tN_nI {u : Nat} (h : u < 2 ^ 31) : tN (nI u) = u := nI_clamp h
abbrev Gd (np sl : Nat) (kd hg : Nat → Nat) (nr : Nat) (ru rl rm rd lane ml : Nat → Nat) : Prop := np ≤ 6 ∧ sl ≤ 9 ∧ (∀ j, kd j ≤ 2) ∧ (∀ j, hg j ≤ 9) ∧ nr ≤ 8 ∧ (∀ j, j < nr → ru j < np) ∧ (∀ j, j < nr → rl j < np) ∧ (∀ j, j < nr → rm j ≤ 9) ∧ (∀ j, rd j ≤ 1) ∧ (∀ k, lane k ≤ 3) ∧ (∀ k, ml k ≤ 60)
def lC (n : Nat) : Int32 := if n = 3 then -1 else nI n
def ln (lane ml : Nat → Nat) (k : Nat) : Nat := if lane k = 3 then 0 else ml k
theorem lC_3 {n : Nat} (h : n = 3) : lC n = -1 := if_pos h
theorem lC_n {n : Nat} (h : n ≠ 3) : lC n = nI n := if_neg h
theorem lC_m1 {n : Nat} (hn : n ≤ 3) : lC n = -1 ↔ n = 3 := by
  constructor
  · intro h
    by_cases z : n = 3
    · exact z
    · rw [lC_n z] at h
      exact absurd (by rw [h]; decide) (nI_pos (n := n) (by omega))
  · exact lC_3
theorem lC_s {n s : Nat} (hn : n ≤ 3) (h3 : n ≠ 3) (hs : s < 3) : lC n = nI s ↔ n = s := by
  rw [lC_n h3]; exact nI_eq (by omega) (by omega)
theorem ln_3 {lane ml : Nat → Nat} {k : Nat} (h : lane k = 3) : ln lane ml k = 0 := if_pos h
theorem ln_n {lane ml : Nat → Nat} {k : Nat} (h : lane k ≠ 3) : ln lane ml k = ml k := if_neg h
theorem ln_le {lane ml : Nat → Nat} (h : ∀ k, ml k ≤ 60) (k : Nat) : ln lane ml k ≤ 60 := by
  have := h k
  unfold ln; split <;> omega
theorem va_up_same {α : Type} {f : Nat → α} {k : Nat} {v : α} (h : f k = v) : va_up f k v = f := by
  funext j
  unfold va_up
  by_cases z : j = k
  · rw [if_pos z, z, h]
  · rw [if_neg z]
theorem va_up_2 {α : Type} (f : Nat → α) (k : Nat) (v w : α) : va_up (va_up f k v) k w = va_up f k w := by
  funext j
  unfold va_up
  by_cases z : j = k
  · rw [if_pos z, if_pos z]
  · rw [if_neg z, if_neg z, if_neg z]
theorem va_up_back {α : Type} (f : Nat → α) (k : Nat) (v : α) : va_up (va_up f k v) k (f k) = f := by rw [va_up_2, va_up_same rfl]
def sp_ofPass (np : Nat) (kd hg : Nat → Nat) (p w : Int32) : Int32 := if isP np p then (if isP 4 w then (if w = nI 0 then nI (kd (tN p)) else nI (hg (3 * tN p + (tN w - 1)))) else -2) else -1
def sp_trim (np : Nat) (hg : Nat → Nat) (p k v : Int32) : Int32 := if isP np p then (if isP 3 k ∧ isP 10 v then nI (hg (3 * tN p + tN k)) else -2) else -1
def st_trim (np : Nat) (hg : Nat → Nat) (p k v : Int32) : Nat → Nat := if isP np p then (if isP 3 k ∧ isP 10 v then va_up hg (3 * tN p + tN k) (tN v) else hg) else hg
def sp_slack (np sl : Nat) (v : Int32) : Int32 := if isP 10 v then (if 0 < np then nI sl else -3) else -2
def st_slack (np sl : Nat) (v : Int32) : Nat := if isP 10 v then (if 0 < np then tN v else sl) else sl
def sp_worn (np : Nat) (kd hg : Nat → Nat) (p k m : Int32) : Int32 := if isP np p then (if isP 3 k ∧ isP 10 m then nI (lo kd hg (tN p) (tN k) (tN m)) else -2) else -1
def sp_off (np : Nat) (kd hg : Nat → Nat) (p q m : Int32) : Int32 := if isP np p ∧ isP np q then (if isP 10 m then nI (ap kd hg (tN p) (tN q) (tN m)) else -2) else -1
def sp_fits (np sl : Nat) (kd hg : Nat → Nat) (q m : Int32) : Int32 := if isP np q then (if isP 10 m then nI (fset np sl kd hg (tN q) (tN m)) else -2) else -1
def sp_match (np sl : Nat) (kd hg : Nat → Nat) (q m : Int32) : Int32 := if isP np q then (if isP 10 m then enc (mtb sl (fun p => ap kd hg p (tN q) (tN m)) np) else -2) else -1
def sp_last (np sl : Nat) (kd hg : Nat → Nat) (p : Int32) : Int32 := if isP np p then enc (lgd (fun m => fitb sl kd hg (tN p) (tN p) m) 10) else -1
def sp_alike (np sl : Nat) (hg : Nat → Nat) (p : Int32) : Int32 := if isP np p then nI (lset np sl hg (tN p)) else -1
def sp_most (np sl : Nat) (hg : Nat → Nat) : Int32 := if 0 < np then nI (ms (lset np sl hg) np (2 ^ np)) else -3
def sp_letGo (np sl : Nat) (kd hg : Nat → Nat) (set m : Int32) : Int32 := if 0 < np then (if isP (2 ^ np) set ∧ isP 10 m then nI (bset (frb (fun q => fset np sl kd hg q (tN m)) (tN set)) np) else -2) else -3
def sp_fewest (np sl : Nat) (kd hg : Nat → Nat) (m : Int32) : Int32 := if isP 10 m then (if 0 < np then enc (fw (fun q => fset np sl kd hg q (tN m)) np (2 ^ np)) else -3) else -2
def ok_reading (np nr : Nat) (p q m : Int32) : Prop := isP np p ∧ isP np q ∧ isP 10 m ∧ nr < 8
def sp_reading (np nr : Nat) (p q m : Int32) : Int32 := if isP np p ∧ isP np q then (if isP 10 m then (if nr < 8 then nI nr else -4) else -2) else -1
abbrev c_reading (np nr : Nat) (p q m : Int32) : Prop := isP np p ∧ isP np q ∧ isP 10 m ∧ nr < 8
def st_nr (np nr : Nat) (p q m : Int32) : Nat := if c_reading np nr p q m then nr + 1 else nr
def st_r (np nr : Nat) (p q m : Int32) (f : Nat → Nat) (v : Nat) : Nat → Nat := if c_reading np nr p q m then va_up f nr v else f
def sp_back (nr : Nat) (k : Int32) : Int32 := if isP (nr + 1) k then nI (nr - tN k) else -2
def st_back (nr : Nat) (k : Int32) : Nat := if isP (nr + 1) k then nr - tN k else nr
def sof (sl : Nat) (kd hg : Nat → Nat) (nr : Nat) (ru rl rm rd : Nat → Nat) : Nat := so (fun j => fitb sl kd hg (ru j) (rl j) (rm j)) rd nr
theorem sof_le (sl : Nat) (kd hg : Nat → Nat) (nr : Nat) (ru rl rm rd : Nat → Nat) : sof sl kd hg nr ru rl rm rd ≤ 1 := so_le _ _ _
def sp_edges (np sl : Nat) (kd hg : Nat → Nat) (nr : Nat) (ru rl rm rd : Nat → Nat) (p k : Int32) : Int32 := if isP np p then (if isP 3 k then nI (bset (fun v => sof sl kd (va_up hg (3 * tN p + tN k) v) nr ru rl rm rd) 10) else -2) else -1
def sp_kinds (np sl : Nat) (kd hg : Nat → Nat) (nr : Nat) (ru rl rm rd : Nat → Nat) (p : Int32) : Int32 := if isP np p then nI (bset (fun v => sof sl (va_up kd (tN p) v) hg nr ru rl rm rd) 3) else -1
def sp_slacks (np : Nat) (kd hg : Nat → Nat) (nr : Nat) (ru rl rm rd : Nat → Nat) : Int32 := if 0 < np then nI (bset (fun v => sof v kd hg nr ru rl rm rd) 10) else -3
def sp_odds (np sl : Nat) (kd hg : Nat → Nat) (q m w : Int32) : Int64 := if isP np q ∧ isP 10 m ∧ isP 2 w then (if w = nI 0 then lN (2 ^ pc (fset np sl kd hg (tN q) (tN m)) - 1) else lN (2 ^ pc (fset np sl kd hg (tN q) (tN m)))) else -9223372036854775808
/-- faults of a row, of cells, of a text -/
def fR (x s : Nat) : Nat := if x = 3 then 1 else if x ≠ s then 2 else 0
abbrev isB (le : Nat) (i n : Int32) : Prop := ¬ i < 0 ∧ ¬ nI le < i ∧ ¬ n < 0 ∧ ¬ nI le - i < n
theorem isB_iff {le : Nat} (hle : le ≤ 60) {i n : Int32} : isB le i n ↔ isC le i n := by
  constructor
  · exact fun h => hC_yes hle h.1 h.2.1 h.2.2.1 h.2.2.2
  · exact fun h => ⟨fun z => hC_1 hle z h, fun z => hC_2 hle z h, fun z => hC_3 hle z h, fun z => hC_4 hle z h⟩
theorem isB_nI {le a b : Nat} (hle : le ≤ 60) (h : a + b ≤ le) : isB le (nI a) (nI b) := (isB_iff hle).mpr ⟨a, b, rfl, rfl, h⟩
def fC (x le s : Nat) (i n : Int32) : Nat := if fR x s ≠ 0 then fR x s else if isB le i n then 0 else 3
def fT (x le s : Nat) (i n : Int32) : Nat := if fR x s ≠ 0 then fR x s else if n < 0 then 4 else if isB le i n then 0 else 3
theorem fR_le (x s : Nat) : fR x s ≤ 2 := by unfold fR; split <;> (try split) <;> omega
theorem fC_le (x le s : Nat) (i n : Int32) : fC x le s i n ≤ 3 := by
  have := fR_le x s
  unfold fC; split <;> (try split) <;> omega
theorem fT_le (x le s : Nat) (i n : Int32) : fT x le s i n ≤ 4 := by
  have := fR_le x s
  unfold fT
  split
  · omega
  · split
    · omega
    · split <;> omega
theorem fR_0 {x s : Nat} (h : fR x s = 0) : x ≠ 3 ∧ x = s := by
  unfold fR at h
  by_cases z : x = 3
  · rw [if_pos z] at h; omega
  · rw [if_neg z] at h
    by_cases w : x = s
    · exact ⟨z, w⟩
    · rw [if_pos w] at h; omega
theorem fC_0 {x le s : Nat} {i n : Int32} (h : fC x le s i n = 0) : fR x s = 0 ∧ isB le i n := by
  unfold fC at h
  by_cases z : fR x s ≠ 0
  · rw [if_pos z] at h; exact absurd h z
  · rw [if_neg z] at h
    by_cases w : isB le i n
    · exact ⟨Decidable.not_not.mp z, w⟩
    · rw [if_neg w] at h; omega
theorem fT_0 {x le s : Nat} {i n : Int32} (h : fT x le s i n = 0) : fR x s = 0 ∧ isB le i n := by
  unfold fT at h
  by_cases z : fR x s ≠ 0
  · rw [if_pos z] at h; exact absurd h z
  · rw [if_neg z] at h
    by_cases y : n < 0
    · rw [if_pos y] at h; omega
    · rw [if_neg y] at h
      by_cases w : isB le i n
      · exact ⟨Decidable.not_not.mp z, w⟩
      · rw [if_neg w] at h; omega
/-- what an error of the machine answers -/
def fA (f : Nat) : Int32 := -10 - nI f
abbrev z3 : Prop := True
def sp_sheet (k s n : Int32) : Int32 := if isP 4 k then (if isP 3 s ∧ ¬ nI 60 < n then (if n < 0 then fA 4 else nI 1) else -2) else -1
def ft_sheet (k s n : Int32) : Nat := if isP 4 k then (if isP 3 s ∧ ¬ nI 60 < n then (if n < 0 then 4 else 0) else 0) else 0
abbrev c_sheet (k s n : Int32) : Prop := isP 4 k ∧ isP 3 s ∧ isP 61 n
def st_lane (lane : Nat → Nat) (k s n : Int32) : Nat → Nat := if c_sheet k s n then va_up lane (tN k) (tN s) else lane
def st_ml (ml : Nat → Nat) (k s n : Int32) : Nat → Nat := if c_sheet k s n then va_up ml (tN k) (tN n) else ml
def st_cel (cel : Nat → Nat → Int32) (k s n : Int32) : Nat → Nat → Int32 := if c_sheet k s n then va_up cel (tN k) (filI (fun _ => nI 0) (cel (tN k)) 60) else cel
def sp_lose (lane : Nat → Nat) (k : Int32) : Int32 := if isP 4 k then (if lane (tN k) = 3 then nI 0 else nI 1) else -1
def st_lose (lane : Nat → Nat) (k : Int32) : Nat → Nat := if isP 4 k then va_up lane (tN k) 3 else lane
def ft_put (lane ml : Nat → Nat) (k i : Int32) : Nat := if isP 4 k then (if lane (tN k) = 3 then 1 else if isP (ml (tN k)) i then 0 else 3) else 0
def sp_put (lane ml : Nat → Nat) (k i : Int32) : Int32 := if isP 4 k then (if lane (tN k) = 3 then fA 1 else if isP (ml (tN k)) i then nI 1 else fA 3) else -1
def st_put (lane ml : Nat → Nat) (cel : Nat → Nat → Int32) (k i v : Int32) : Nat → Nat → Int32 := if isP 4 k ∧ lane (tN k) ≠ 3 ∧ isP (ml (tN k)) i then va_up cel (tN k) (upd (cel (tN k)) (tN i) (cutI (nI (lane (tN k))) v)) else cel
def ft_cell (lane ml : Nat → Nat) (k i s : Int32) : Nat := if isP 4 k ∧ isP 3 s then (if fR (lane (tN k)) (tN s) ≠ 0 then fR (lane (tN k)) (tN s) else if isP (ml (tN k)) i then 0 else 3) else 0
def sp_cell (lane ml : Nat → Nat) (cel : Nat → Nat → Int32) (k i s : Int32) : Int64 := if isP 4 k ∧ isP 3 s then (if fR (lane (tN k)) (tN s) ≠ 0 then -9223372036854775808 else if isP (ml (tN k)) i then (cel (tN k) (tN i)).toInt64 else -9223372036854775808) else -9223372036854775808
def ft_copy (lane ml : Nat → Nat) (k i o j n : Int32) : Nat := if isP 4 k ∧ isP 4 o then (if lane (tN k) = 3 ∨ lane (tN o) = 3 then 1 else if lane (tN k) ≠ lane (tN o) then 2 else if isB (ml (tN k)) i n ∧ isB (ml (tN o)) j n then 0 else 3) else 0
def sp_copy (lane ml : Nat → Nat) (k i o j n : Int32) : Int32 := if isP 4 k ∧ isP 4 o then (if ft_copy lane ml k i o j n = 0 then n else fA (ft_copy lane ml k i o j n)) else -1
def st_copy (lane ml : Nat → Nat) (cel : Nat → Nat → Int32) (k i o j n : Int32) : Nat → Nat → Int32 := if (isP 4 k ∧ isP 4 o) ∧ ft_copy lane ml k i o j n = 0 then va_up cel (tN o) (va_cpy (cel (tN k)) (cel (tN o)) (tN i) (tN j) (tN n)) else cel
def lv (tr : Int32) (b : Nat) : Int32 := nI 31 * tr + nI b
def hsum (hg : Nat → Nat) (p : Nat) : Nat := sumk (fun k => hg (3 * p + k)) 3
theorem hsum_le {hg : Nat → Nat} (hhg : ∀ j, hg j ≤ 9) (p : Nat) : hsum hg p ≤ 27 := sumk_le (fun k => hhg _) 3
def sp_tell (np : Nat) (kd hg : Nat → Nat) (p : Int32) : Int32 := if isP np p then (if kd (tN p) = 2 then nI (2 * hsum hg (tN p) + 100) else if kd (tN p) = 1 then nI (hsum hg (tN p) + 100) else nI (hsum hg (tN p))) else -1
def st_tell (np : Nat) (kd : Nat → Nat) (tr p : Int32) : Int32 := if isP np p then (if kd (tN p) = 2 then lv (lv (lv (lv tr 3) 2) 1) 1 else if kd (tN p) = 1 then lv (lv tr 2) 1 else lv tr 1) else tr
def sp_seal (np : Nat) (kd : Nat → Nat) (p : Int32) : Int32 := if isP np p then (if kd (tN p) = 2 then nI 70 else p) else -1
def st_seal (np : Nat) (kd : Nat → Nat) (tr p : Int32) : Int32 := if isP np p then (if kd (tN p) = 2 then lv tr 5 else lv tr 4) else tr
def sp_as (np : Nat) (kd : Nat → Nat) (p s : Int32) : Int32 := if isP np p then (if isP 3 s then (if tN s ≤ kd (tN p) then nI 1 else fA 2) else -2) else -1
def ft_as (np : Nat) (kd : Nat → Nat) (p s : Int32) : Nat := if isP np p then (if isP 3 s then (if tN s ≤ kd (tN p) then 0 else 2) else 0) else 0
def sp_many (np sl nr : Nat) (w : Int32) : Int32 := if w = nI 0 then nI np else if w = nI 1 then nI sl else if w = nI 2 then nI nr else -2
/-- a coast by a text -/
abbrev rowc (cel : Nat → Nat → Int32) (k i : Int32) : Nat → Int32 := fun z => cel (tN k) (tN i + z)
def ft_coast (lane ml : Nat → Nat) (k s i n : Int32) : Nat := if isP 4 k ∧ isP 3 s then fT (lane (tN k)) (ml (tN k)) (tN s) i n else 0
def sp_coast (lane ml : Nat → Nat) (cel : Nat → Nat → Int32) (k s i n : Int32) : Int32 := if isP 4 k then (if isP 3 s then (if ft_coast lane ml k s i n = 0 then (if fwc (rowc cel k i) (tN n) = -9 then nI ((tN n - 2) / 5) else -100 - fwc (rowc cel k i) (tN n)) else fA (ft_coast lane ml k s i n)) else -2) else -1
abbrev c_coast (lane ml : Nat → Nat) (cel : Nat → Nat → Int32) (k s i n : Int32) : Prop := (isP 4 k ∧ isP 3 s) ∧ ft_coast lane ml k s i n = 0 ∧ fwc (rowc cel k i) (tN n) = -9
def sc_np (lane ml : Nat → Nat) (cel : Nat → Nat → Int32) (k s i n : Int32) (np : Nat) : Nat := if c_coast lane ml cel k s i n then (tN n - 2) / 5 else np
def sc_sl (lane ml : Nat → Nat) (cel : Nat → Nat → Int32) (k s i n : Int32) (sl : Nat) : Nat := if c_coast lane ml cel k s i n then dv (rowc cel k i 1) else sl
def sc_kd (lane ml : Nat → Nat) (cel : Nat → Nat → Int32) (k s i n : Int32) (kd : Nat → Nat) : Nat → Nat := if c_coast lane ml cel k s i n then fil (tk (rowc cel k i)) kd ((tN n - 2) / 5) else kd
def sc_hg (lane ml : Nat → Nat) (cel : Nat → Nat → Int32) (k s i n : Int32) (hg : Nat → Nat) : Nat → Nat := if c_coast lane ml cel k s i n then fil (th (rowc cel k i)) hg (3 * ((tN n - 2) / 5)) else hg
def sc_nr (lane ml : Nat → Nat) (cel : Nat → Nat → Int32) (k s i n : Int32) (nr : Nat) : Nat := if c_coast lane ml cel k s i n then 0 else nr
