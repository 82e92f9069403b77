abbrev cf (cel : Nat → Nat → Int32) (p : Nat) : Int32 := cel (p / 60) (p % 60)
abbrev dgC (cel : Nat → Nat → Int32) (p e : Nat) : Prop := p < e ∧ dg (cf cel p)
def dgR (cel : Nat → Nat → Int32) (p e : Nat) : Int32 := if dgC cel p e then nI (dv (cf cel p)) else -9
def dgP (cel : Nat → Nat → Int32) (p e : Nat) : Nat := p + b01 (dgC cel p e)
abbrev sgC (cel : Nat → Nat → Int32) (p e : Nat) (v : Int32) : Prop := p < e ∧ cf cel p = v
def sgP (cel : Nat → Nat → Int32) (p e : Nat) (v : Int32) : Nat := p + b01 (sgC cel p e v)
theorem dgR_y {cel : Nat → Nat → Int32} {p e : Nat} (h : dgC cel p e) : nI (dv (cf cel p)) = dgR cel p e := by rw [dgR, if_pos h]
theorem dgR_n {cel : Nat → Nat → Int32} {p e : Nat} (h : ¬ dgC cel p e) : (-9 : Int32) = dgR cel p e := by rw [dgR, if_neg h]
theorem dgP_y {cel : Nat → Nat → Int32} {p e : Nat} (h : dgC cel p e) : dgP cel p e = p + 1 := by rw [dgP, b01_t h]
theorem dgP_n {cel : Nat → Nat → Int32} {p e : Nat} (h : ¬ dgC cel p e) : dgP cel p e = p := by rw [dgP, b01_f h]; rfl
theorem sgP_y {cel : Nat → Nat → Int32} {p e : Nat} {v : Int32} (h : sgC cel p e v) : sgP cel p e v = p + 1 := by rw [sgP, b01_t h]
theorem sgP_n {cel : Nat → Nat → Int32} {p e : Nat} {v : Int32} (h : ¬ sgC cel p e v) : sgP cel p e v = p := by rw [sgP, b01_f h]; rfl
