/-! my own rows: what is the same for all methods -/
abbrev Gx : Type := va_G × ClassId × ClassId × ClassId
abbrev gI (g : Gx) : ClassId := g.2.1
abbrev gZ (g : Gx) : ClassId := g.2.2.1
abbrev gS (g : Gx) : ClassId := g.2.2.2
abbrev tyG (g : Gx) : List (ClassId × FieldType) := [(gI g, .int), (gZ g, .boolean), (gS g, .object RX2)]
def ns_ok (U : State) : Prop := va_Nw (.methodLinkNest RX4 19 yX0_init RX4) U ∧ va_Nw (.methodLinkNest RX4 26 yX3_init RX4) U ∧ va_Nw (.methodLinkNest RX4 33 yX1_init RX4) U ∧ va_Nw (.methodLinkNest RX4 45 yX2_init RX4) U ∧ va_Nw (.methodLinkNest RX0 81 yX4_bitIf RX4) U ∧ va_Nw (.methodLinkNest RX3 40 yX4_isMonths RX4) U ∧ va_Nw (.methodLinkNest RX3 46 yX4_bitIf RX4) U
theorem ns_ok.warm {s U : State} (hW : s.WarmedH U.vm) (h : ns_ok s) : ns_ok U := ⟨va_Nw.warmM hW h.1, va_Nw.warmM hW h.2.1, va_Nw.warmM hW h.2.2.1, va_Nw.warmM hW h.2.2.2.1, va_Nw.warmM hW h.2.2.2.2.1, va_Nw.warmM hW h.2.2.2.2.2.1, va_Nw.warmM hW h.2.2.2.2.2.2⟩
theorem ns_ok.same {s U : State} (hv : s.vm = U.vm) (h : ns_ok s) : ns_ok U := ⟨va_Nw.same rfl hv h.1, va_Nw.same rfl hv h.2.1, va_Nw.same rfl hv h.2.2.1, va_Nw.same rfl hv h.2.2.2.1, va_Nw.same rfl hv h.2.2.2.2.1, va_Nw.same rfl hv h.2.2.2.2.2.1, va_Nw.same rfl hv h.2.2.2.2.2.2⟩
def KK (g : Gx) (U : State) : Prop := va_K g.1 vwCl (tyG g) U ∧ ns_ok U
abbrev PP (g : Gx) (w : va_W) (H : Heap) : Prop := va_P g.1 vwCl w H
def inW (w : va_W) : Nat → Prop := fun q => q ∈ w.map (fun x => x.1)
theorem KK.warm {g : Gx} {s U : State} (hW : s.WarmedH U.vm) (h : KK g s) : KK g U := ⟨va_K.moved hW.alike h.1, h.2.warm hW⟩
theorem KK.same {g : Gx} {s U : State} (hv : s.vm = U.vm) (h : KK g s) : KK g U := ⟨va_K.moved (by rw [hv]; exact Vm.Alike.refl U.vm) h.1, h.2.same hv⟩
/-- the start of a method that writes nothing -/
def PcR (g : Gx) (av : List Value) (w : va_W) : Array Value → State → Prop := va_Pc av (fun U => PP g w U.heap ∧ KK g U)
/-- the start of a method that writes in its own cells -/
def PcM (g : Gx) (av : List Value) (w : va_W) : Array Value → State → Prop := va_Pc av (fun U => PP g w U.heap ∧ KK g U ∧ va_D (fun _ => True) w)
theorem PcR.blind {g : Gx} {av : List Value} {w : va_W} : FrameBlind (PcR g av w) := fun a U gg mk h => ⟨h.1, h.2.1, KK.same (s := U) (U := U.calling gg mk a) rfl h.2.2⟩
theorem PcM.blind {g : Gx} {av : List Value} {w : va_W} : FrameBlind (PcM g av w) := fun a U gg mk h => ⟨h.1, h.2.1, KK.same (s := U) (U := U.calling gg mk a) rfl h.2.2.1, h.2.2.2⟩
theorem inW.D {w : va_W} {A : Nat → Prop} (h : va_D A w) : va_D (inW w) w := ⟨h.1, fun k q hk => List.mem_map.mpr ⟨q, List.mem_of_getElem? hk, rfl⟩⟩
theorem D_addr {A : Nat → Prop} {w w1 : va_W} (ha : w1.map (fun x => x.1) = w.map (fun x => x.1)) (h : va_D A w) : va_D A w1 := by
  have key : ∀ (k : Nat) (q : Nat × va_E), w1[k]? = some q → ∃ q' : Nat × va_E, w[k]? = some q' ∧ q'.1 = q.1 := by
    intro k q hq
    have h1 : (w1.map (fun x => x.1))[k]? = some q.1 := by rw [List.getElem?_map, hq]; rfl
    rw [ha, List.getElem?_map] at h1
    cases hw : w[k]? with
    | none => rw [hw] at h1; cases h1
    | some q' => rw [hw] at h1; exact ⟨q', rfl, Option.some.inj h1⟩
  refine ⟨fun i j a b hi hj e => ?_, fun k q hk => ?_⟩
  · obtain ⟨a', ha1, ha2⟩ := key i a hi
    obtain ⟨b', hb1, hb2⟩ := key j b hj
    exact h.1 i j a' b' ha1 hb1 (by rw [ha2, hb2, e])
  · obtain ⟨q', h1, h2⟩ := key k q hk
    rw [← h2]; exact h.2 k q' h1
def setAll (ws : va_W) : List Nat → va_W → va_W
  | i :: is, q :: qs => setAll (ws.set i q) is qs
  | _, _ => ws
theorem setAll_at : ∀ (is : List Nat) (w1 ws : va_W) (k : Nat) (q : Nat × va_E), (setAll ws is w1)[k]? = some q → (q ∈ w1) ∨ (ws[k]? = some q ∧ ∀ j, j < w1.length → is[j]? ≠ some k)
  | [], w1, ws, k, q, h => by
    have h' : ws[k]? = some q := by cases w1 <;> exact h
    exact Or.inr ⟨h', fun j _ hj => by simp at hj⟩
  | i :: is, [], ws, k, q, h => Or.inr ⟨h, fun j hj => absurd hj (Nat.not_lt_zero j)⟩
  | i :: is, q1 :: qs, ws, k, q, h => by
    rcases setAll_at is qs (ws.set i q1) k q h with h1 | ⟨h1, h2⟩
    · exact Or.inl (List.mem_cons_of_mem _ h1)
    · rw [List.getElem?_set] at h1
      by_cases hik : i = k
      · rw [if_pos hik] at h1
        by_cases hl : i < ws.length
        · rw [if_pos hl] at h1
          exact Or.inl (by rw [← Option.some.inj h1]; exact List.mem_cons_self)
        · rw [if_neg hl] at h1; cases h1
      · rw [if_neg hik] at h1
        refine Or.inr ⟨h1, fun j hj hjk => ?_⟩
        cases j with
        | zero => exact hik (Option.some.inj hjk)
        | succ j => exact h2 j (Nat.lt_of_succ_lt_succ hj) hjk
/-- behind a call that wrote in its own cells: the caller's world -/
theorem mu_join {g : Gx} {A : Nat → Prop} {ws w w1 ws1 : va_W} {H H1 : Heap} (hP : PP g ws H) (hD : va_D A ws) (isC : List Nat) (hC : isC.map (fun i => ws[i]?) = w.map some) (hn : w1.length = w.length) (hs : setAll ws isC w1 = ws1) (ha : ws1.map (fun x => x.1) = ws.map (fun x => x.1)) (hk : ∀ q : Nat, q < H.size → ¬ inW w q → H1[q]? = H[q]?) (hP1 : PP g w1 H1) : PP g ws1 H1 ∧ va_D A ws1 := by
  refine ⟨fun k q hq => ?_, D_addr ha hD⟩
  rw [← hs] at hq
  rcases setAll_at isC w1 ws k q hq with h | ⟨h, h2⟩
  · obtain ⟨j, hj⟩ := List.getElem?_of_mem h
    exact hP1 j q hj
  · refine (hP k q h).kept (hk q.1 (hP k q h).lt ?_)
    intro hin
    obtain ⟨x, hx, hx2⟩ := List.mem_map.mp hin
    obtain ⟨j, hj⟩ := List.getElem?_of_mem hx
    have h3 : (isC.map (fun i => ws[i]?))[j]? = some (some x) := by rw [hC, List.getElem?_map, hj]; rfl
    rw [List.getElem?_map] at h3
    cases hi : isC[j]? with
    | none => rw [hi] at h3; cases h3
    | some i =>
      rw [hi] at h3
      have h4 : ws[i]? = some x := Option.some.inj h3
      have h5 := hD.1 i k x q h4 h hx2
      subst h5
      exact h2 j (by rw [hn]; exact (List.getElem?_eq_some_iff.mp hj).1) hi
/-- the cells of a part of the world are the world's -/
theorem in_sub {A : Nat → Prop} {ws w : va_W} (hD : va_D A ws) (isC : List Nat) (hC : isC.map (fun i => ws[i]?) = w.map some) : ∀ q, inW w q → A q := by
  intro q hin
  obtain ⟨x, hx, hx2⟩ := List.mem_map.mp hin
  obtain ⟨j, hj⟩ := List.getElem?_of_mem hx
  have h3 : (isC.map (fun i => ws[i]?))[j]? = some (some x) := by rw [hC, List.getElem?_map, hj]; rfl
  rw [List.getElem?_map] at h3
  cases hi : isC[j]? with
  | none => rw [hi] at h3; cases h3
  | some i =>
    rw [hi] at h3
    rw [← hx2]
    exact hD.2 i x (Option.some.inj h3)
section Enter
variable {l : Launch} {y : MethodName} {ws ws' : List Cond} {rm : Room} {g : Gx} {av : List Value} {w : va_W} {cc : ByteArray} {maxL : Nat} {ret : Option FieldType}
theorem zenterR {Qc : Array Value → State → Outcome → State → Prop} (hy : plainName y.cls = true) (hw : ws = Cond.code y cc maxL ret :: ws') (hlen : (lg_sl av).length ≤ maxL)
    (body : ∀ (P : Program) (E : Env) (s : State) (m : MethodId) (below : List Frame) (meth : Method) (c : Code) (ls : Array Slot), P.tables.exec = Jvm.exec → c.code = cc → c.maxLocals = maxL → s.vm.findClass y.cls = some m.cls → (∀ x ∈ ws, x.before av.toArray s = true) → meth.sig.returnType = ret → meth.locks = false → PP g w s.heap → KK g s → lv_has ls maxL (lv_args 0 av) →
      W P l E rm s m av.toArray below meth c s.heap [] 0 0 (MQ below Qc av.toArray s 0 0 (fun _ => False)) (F0 m 0 ls [])) : Met l y ws rm (PcR g av w) Qc 0 0 (fun _ => False) := by
  refine Met.ofW (cc := cc) (maxL := maxL) (ret := ret) hy hw ?_
  intro p e s m args below meth c s₁ B hml hv
  obtain ⟨rfl, hP, hK⟩ := hv
  have hl := lv_entry av (n := maxL) hlen
  rw [lg_entry_eq]
  exact body p e s m below meth c _ B.exec B.bytes hml (findClass_of_methodNamed B.named) (atoms_spec (ws := ws) B.pre) B.returns B.notSynchronized hP hK hl
theorem zenterM {Qc : Array Value → State → Outcome → State → Prop} (hy : plainName y.cls = true) (hw : ws = Cond.code y cc maxL ret :: ws') (hlen : (lg_sl av).length ≤ maxL)
    (body : ∀ (P : Program) (E : Env) (s : State) (m : MethodId) (below : List Frame) (meth : Method) (c : Code) (ls : Array Slot), P.tables.exec = Jvm.exec → c.code = cc → c.maxLocals = maxL → s.vm.findClass y.cls = some m.cls → (∀ x ∈ ws, x.before av.toArray s = true) → meth.sig.returnType = ret → meth.locks = false → PP g w s.heap → KK g s → va_D (inW w) w → va_S (inW w) s.heap s.heap [] → lv_has ls maxL (lv_args 0 av) →
      W P l E rm s m av.toArray below meth c s.heap [] 0 0 (MQ below Qc av.toArray s 0 0 (inW w)) (F0 m 0 ls [])) : Met l y ws rm (PcM g av w) Qc 0 0 (inW w) := by
  refine Met.ofW (cc := cc) (maxL := maxL) (ret := ret) hy hw ?_
  intro p e s m args below meth c s₁ B hml hv
  obtain ⟨rfl, hP, hK, hD⟩ := hv
  have hl := lv_entry av (n := maxL) hlen
  rw [lg_entry_eq]
  exact body p e s m below meth c _ B.exec B.bytes hml (findClass_of_methodNamed B.named) (atoms_spec (ws := ws) B.pre) B.returns B.notSynchronized hP hK (inW.D hD) va_S.rf hl
end Enter
section Rows
variable {P : Program} {l : Launch} {E : Env} {R : Room} {s : State} {m : MethodId} {args : Array Value} {below : List Frame} {meth : Method} {c : Code} {H : Heap} {locs : List Loc} {cells slots : Nat} {Q : State → Prop}
variable {cc : ByteArray} {pc : Nat} {ls : Array Slot} {rest : List Value}
theorem zretI {ty : FieldType} {v : Int32} {post : Int32 → Prop} (hx : P.tables.exec = Jvm.exec) (hb : c.code = cc) (hr : meth.sig.returnType = some ty) (hlocks : meth.locks = false) (hn : narrow ty (.int v) = .int v) (hp : post v) (hdg : decode cc pc = .ok (.ireturn, 1)) : W P l E R s m args below meth c s.heap [] 0 0 (MQ below (vp_Si post) args s 0 0 (fun _ => False)) (F0 m pc ls [.int v]) :=
  W.zret hx hb hr hn (fun t ht _ => ⟨v, rfl, hp, ht⟩) (fun q h => by cases h) hdg hlocks
theorem zretL {v : Int64} {post : Int64 → Prop} (hx : P.tables.exec = Jvm.exec) (hb : c.code = cc) (hr : meth.sig.returnType = some .long) (hlocks : meth.locks = false) (hp : post v) (hdg : decode cc pc = .ok (.lreturn, 1)) : W P l E R s m args below meth c s.heap [] 0 0 (MQ below (vp_Sl post) args s 0 0 (fun _ => False)) (F0 m pc ls [.long v]) :=
  W.lret hx hb hr (fun t ht _ => ⟨v, rfl, hp, ht⟩) (fun q h => by cases h) hdg hlocks
theorem zretMI {g : Gx} {w : va_W} {S : Type} {ty : FieldType} {v : Int32} {post : Int32 → S → Prop} {w1 : S → va_W} (u : S) (hx : P.tables.exec = Jvm.exec) (hb : c.code = cc) (hr : meth.sig.returnType = some ty) (hlocks : meth.locks = false) (hS : va_S (inW w) s.heap H locs) (hn : narrow ty (.int v) = .int v) (hp : post v u) (hP : PP g (w1 u) H) (hdg : decode cc pc = .ok (.ireturn, 1)) : W P l E R s m args below meth c H locs 0 0 (MQ below (va_Qi post (fun u t => PP g (w1 u) t.heap) (inW w)) args s 0 0 (inW w)) (F0 m pc ls [.int v]) :=
  W.zret hx hb hr hn (fun t ht _ => ⟨⟨v, u, rfl, hp, by show PP g (w1 u) t.heap; rw [ht]; exact hP⟩, hS.F ht⟩) hS.2.2 hdg hlocks
theorem zretML {g : Gx} {w : va_W} {S : Type} {v : Int64} {post : Int64 → S → Prop} {w1 : S → va_W} (u : S) (hx : P.tables.exec = Jvm.exec) (hb : c.code = cc) (hr : meth.sig.returnType = some .long) (hlocks : meth.locks = false) (hS : va_S (inW w) s.heap H locs) (hp : post v u) (hP : PP g (w1 u) H) (hdg : decode cc pc = .ok (.lreturn, 1)) : W P l E R s m args below meth c H locs 0 0 (MQ below (va_Ql post (fun u t => PP g (w1 u) t.heap) (inW w)) args s 0 0 (inW w)) (F0 m pc ls [.long v]) :=
  W.lret hx hb hr (fun t ht _ => ⟨⟨v, u, rfl, hp, by show PP g (w1 u) t.heap; rw [ht]; exact hP⟩, hS.F ht⟩) hS.2.2 hdg hlocks
theorem zretMV {g : Gx} {w : va_W} {S : Type} {post : S → Prop} {w1 : S → va_W} (u : S) (hx : P.tables.exec = Jvm.exec) (hb : c.code = cc) (hr : meth.sig.returnType = none) (hlocks : meth.locks = false) (hS : va_S (inW w) s.heap H locs) (hp : post u) (hP : PP g (w1 u) H) (hdg : decode cc pc = .ok (.return_, 1)) : W P l E R s m args below meth c H locs 0 0 (MQ below (va_Qv post (fun u t => PP g (w1 u) t.heap) (inW w)) args s 0 0 (inW w)) (F0 m pc ls []) :=
  W.vret hx hb hr (fun t ht _ => ⟨⟨u, rfl, hp, by show PP g (w1 u) t.heap; rw [ht]; exact hP⟩, hS.F ht⟩) hS.2.2 hdg hlocks
theorem ztopI {x : Int32} (y : Int32) (h : x = y) (k : W P l E R s m args below meth c H locs cells slots Q (F0 m pc ls (.int y :: rest))) : W P l E R s m args below meth c H locs cells slots Q (F0 m pc ls (.int x :: rest)) := h ▸ k
theorem ztopL {x : Int64} (y : Int64) (h : x = y) (k : W P l E R s m args below meth c H locs cells slots Q (F0 m pc ls (.long y :: rest))) : W P l E R s m args below meth c H locs cells slots Q (F0 m pc ls (.long x :: rest)) := h ▸ k
theorem ztopR {x : Value} (y : Value) (h : x = y) (k : W P l E R s m args below meth c H locs cells slots Q (F0 m pc ls (y :: rest))) : W P l E R s m args below meth c H locs cells slots Q (F0 m pc ls (x :: rest)) := h ▸ k
theorem n_iadd (hexec : P.tables.exec = Jvm.exec) (hb : c.code = cc) {a b : Nat} (hdg : decode cc pc = .ok (.iadd, 1)) (k : W P l E R s m args below meth c H locs cells slots Q (F0 m (pc + 1) ls (.int (nI (a + b)) :: rest))) : W P l E R s m args below meth c H locs cells slots Q (F0 m pc ls (.int (nI b) :: .int (nI a) :: rest)) := lv_iadd hexec hb hdg (by rw [nI_add]; exact k)
theorem n_imul (hexec : P.tables.exec = Jvm.exec) (hb : c.code = cc) {a b : Nat} (hdg : decode cc pc = .ok (.imul, 1)) (k : W P l E R s m args below meth c H locs cells slots Q (F0 m (pc + 1) ls (.int (nI (a * b)) :: rest))) : W P l E R s m args below meth c H locs cells slots Q (F0 m pc ls (.int (nI b) :: .int (nI a) :: rest)) := lv_imul hexec hb hdg (by rw [pk_mul]; exact k)
theorem n_isub (hexec : P.tables.exec = Jvm.exec) (hb : c.code = cc) {a b : Nat} (h : b ≤ a) (hdg : decode cc pc = .ok (.isub, 1)) (k : W P l E R s m args below meth c H locs cells slots Q (F0 m (pc + 1) ls (.int (nI (a - b)) :: rest))) : W P l E R s m args below meth c H locs cells slots Q (F0 m pc ls (.int (nI b) :: .int (nI a) :: rest)) := lv_isub hexec hb hdg (by rw [pk_sub h]; exact k)
theorem n_idiv (hexec : P.tables.exec = Jvm.exec) (hb : c.code = cc) {a b : Nat} (ha : a < 2 ^ 31) (h0 : 0 < b) (hb2 : b < 2 ^ 31) (hdg : decode cc pc = .ok (.idiv, 1)) (k : W P l E R s m args below meth c H locs cells slots Q (F0 m (pc + 1) ls (.int (nI (a / b)) :: rest))) : W P l E R s m args below meth c H locs cells slots Q (F0 m pc ls (.int (nI b) :: .int (nI a) :: rest)) := lv_idiv hexec hb hdg (nI_ne0 h0 hb2) (by rw [pk_div ha h0 hb2]; exact k)
theorem n_irem (hexec : P.tables.exec = Jvm.exec) (hb : c.code = cc) {a b : Nat} (ha : a < 2 ^ 31) (h0 : 0 < b) (hb2 : b < 2 ^ 31) (hdg : decode cc pc = .ok (.irem, 1)) (k : W P l E R s m args below meth c H locs cells slots Q (F0 m (pc + 1) ls (.int (nI (a % b)) :: rest))) : W P l E R s m args below meth c H locs cells slots Q (F0 m pc ls (.int (nI b) :: .int (nI a) :: rest)) := lv_irem hexec hb hdg (nI_ne0 h0 hb2) (by rw [pk_rem ha h0 hb2]; exact k)
theorem nI_eqz {a : Nat} (ha : a < 2 ^ 31) : nI a = 0 ↔ a = 0 := by rw [← nI_0]; exact nI_eq ha (by decide)
theorem nI_and (a b : Nat) : nI a &&& nI b = nI (a &&& b) := by
  apply Int32.toBitVec_inj.mp
  show BitVec.ofNat 32 a &&& BitVec.ofNat 32 b = BitVec.ofNat 32 (a &&& b)
  rw [BitVec.ofNat_and]
theorem nI_or (a b : Nat) : nI a ||| nI b = nI (a ||| b) := by
  apply Int32.toBitVec_inj.mp
  show BitVec.ofNat 32 a ||| BitVec.ofNat 32 b = BitVec.ofNat 32 (a ||| b)
  rw [BitVec.ofNat_or]
theorem n_iand (hexec : P.tables.exec = Jvm.exec) (hb : c.code = cc) {a b : Nat} (hdg : decode cc pc = .ok (.iand, 1)) (k : W P l E R s m args below meth c H locs cells slots Q (F0 m (pc + 1) ls (.int (nI (a &&& b)) :: rest))) : W P l E R s m args below meth c H locs cells slots Q (F0 m pc ls (.int (nI b) :: .int (nI a) :: rest)) := lv_iand hexec hb hdg (by rw [nI_and]; exact k)
theorem n_ior (hexec : P.tables.exec = Jvm.exec) (hb : c.code = cc) {a b : Nat} (hdg : decode cc pc = .ok (.ior, 1)) (k : W P l E R s m args below meth c H locs cells slots Q (F0 m (pc + 1) ls (.int (nI (a ||| b)) :: rest))) : W P l E R s m args below meth c H locs cells slots Q (F0 m pc ls (.int (nI b) :: .int (nI a) :: rest)) := lv_ior hexec hb hdg (by rw [nI_or]; exact k)
theorem nI_sh : ∀ n, n < 31 → ((nI n &&& 31).toBitVec.smod 32).toNat = n := by decide +kernel
theorem nI_shl1 {n : Nat} (h : n < 31) : nI 1 <<< (nI n &&& 31) = nI (2 ^ n) := by
  have h2 : 1 * 2 ^ n < 2 ^ 32 := by rw [Nat.one_mul]; exact Nat.pow_lt_pow_right (by decide) (by omega)
  rw [pk_shlN (nI n &&& 31) n (nI_sh n h) h2, Nat.one_mul]
theorem n_ishl1 (hexec : P.tables.exec = Jvm.exec) (hb : c.code = cc) {n : Nat} (h : n < 31) (hdg : decode cc pc = .ok (.ishl, 1)) (k : W P l E R s m args below meth c H locs cells slots Q (F0 m (pc + 1) ls (.int (nI (2 ^ n)) :: rest))) : W P l E R s m args below meth c H locs cells slots Q (F0 m pc ls (.int (nI n) :: .int (nI 1) :: rest)) := lv_ishl hexec hb hdg (by rw [nI_shl1 h]; exact k)
theorem n_if_eq (hexec : P.tables.exec = Jvm.exec) (hb : c.code = cc) {a : Nat} (ha : a < 2 ^ 31) {off : Int} {tgt : Nat} (hdg : decode cc pc = .ok (.ifCond .eq off, 3)) (ht : (pc : Int) + off = (tgt : Int)) (kt : a = 0 → W P l E R s m args below meth c H locs cells slots Q (F0 m tgt ls rest)) (kf : a ≠ 0 → W P l E R s m args below meth c H locs cells slots Q (F0 m (pc + 3) ls rest)) : W P l E R s m args below meth c H locs cells slots Q (F0 m pc ls (.int (nI a) :: rest)) := lv_if_eq hexec hb hdg ht (fun q => kt ((nI_eqz ha).mp q)) (fun q => kf (fun z => q ((nI_eqz ha).mpr z)))
theorem n_if_ne (hexec : P.tables.exec = Jvm.exec) (hb : c.code = cc) {a : Nat} (ha : a < 2 ^ 31) {off : Int} {tgt : Nat} (hdg : decode cc pc = .ok (.ifCond .ne off, 3)) (ht : (pc : Int) + off = (tgt : Int)) (kt : a ≠ 0 → W P l E R s m args below meth c H locs cells slots Q (F0 m tgt ls rest)) (kf : a = 0 → W P l E R s m args below meth c H locs cells slots Q (F0 m (pc + 3) ls rest)) : W P l E R s m args below meth c H locs cells slots Q (F0 m pc ls (.int (nI a) :: rest)) := lv_if_ne hexec hb hdg ht (fun q => kt (fun z => q ((nI_eqz ha).mpr z))) (fun q => kf ((nI_eqz ha).mp q))
theorem n_icmp_eq (hexec : P.tables.exec = Jvm.exec) (hb : c.code = cc) {a b : Nat} (ha : a < 2 ^ 31) (hb2 : b < 2 ^ 31) {off : Int} {tgt : Nat} (hdg : decode cc pc = .ok (.if_icmp .eq off, 3)) (ht : (pc : Int) + off = (tgt : Int)) (kt : a = b → W P l E R s m args below meth c H locs cells slots Q (F0 m tgt ls rest)) (kf : a ≠ b → W P l E R s m args below meth c H locs cells slots Q (F0 m (pc + 3) ls rest)) : W P l E R s m args below meth c H locs cells slots Q (F0 m pc ls (.int (nI b) :: .int (nI a) :: rest)) := lv_icmp_eq hexec hb hdg ht (fun q => kt ((nI_eq ha hb2).mp q)) (fun q => kf (fun z => q ((nI_eq ha hb2).mpr z)))
theorem n_icmp_ne (hexec : P.tables.exec = Jvm.exec) (hb : c.code = cc) {a b : Nat} (ha : a < 2 ^ 31) (hb2 : b < 2 ^ 31) {off : Int} {tgt : Nat} (hdg : decode cc pc = .ok (.if_icmp .ne off, 3)) (ht : (pc : Int) + off = (tgt : Int)) (kt : a ≠ b → W P l E R s m args below meth c H locs cells slots Q (F0 m tgt ls rest)) (kf : a = b → W P l E R s m args below meth c H locs cells slots Q (F0 m (pc + 3) ls rest)) : W P l E R s m args below meth c H locs cells slots Q (F0 m pc ls (.int (nI b) :: .int (nI a) :: rest)) := lv_icmp_ne hexec hb hdg ht (fun q => kt (fun z => q ((nI_eq ha hb2).mpr z))) (fun q => kf ((nI_eq ha hb2).mp q))
end Rows
