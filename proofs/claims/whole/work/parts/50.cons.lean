/-! my own rows for constructors: a method that makes cells -/
def PcN (g : Gx) (av : List Value) (w : va_W) (sz : Nat) : Array Value → State → Prop := va_Pc av (fun U => U.heap.size = sz ∧ PP g w U.heap ∧ KK g U ∧ va_D (fun _ => True) w ∧ va_AO RX2 U)
theorem PcN.blind {g : Gx} {av : List Value} {w : va_W} {sz : Nat} : FrameBlind (PcN g av w sz) := fun a U gg mk h => ⟨h.1, h.2.1, h.2.2.1, KK.same (s := U) (U := U.calling gg mk a) rfl h.2.2.2.1, h.2.2.2.2.1, va_AO.moved (u := U) (U := U.calling gg mk a) (Vm.Alike.refl U.vm) h.2.2.2.2.2⟩
/-- what is behind a constructor: its world, and that its cells are its own or new -/
abbrev BN (g : Gx) (w : va_W) (sz : Nat) {S : Type} (w1 : S → va_W) : S → State → Prop := fun u t => PP g (w1 u) t.heap ∧ va_D (va_A w sz) (w1 u)
abbrev QN (g : Gx) (w : va_W) (sz : Nat) {S : Type} (w1 : S → va_W) : Array Value → State → Outcome → State → Prop := va_Qv (fun _ : S => True) (BN g w sz w1) (va_A w sz)
section EnterN
variable {l : Launch} {y : MethodName} {ws ws' : List Cond} {rm : Room} {g : Gx} {av : List Value} {w : va_W} {cc : ByteArray} {maxL : Nat} {ret : Option FieldType}
theorem zenterN {Qc : Array Value → State → Outcome → State → Prop} {sz mc ms : Nat} (hy : plainName y.cls = true) (hw : ws = Cond.code y cc maxL ret :: ws') (hlen : (lg_sl av).length ≤ maxL)
    (body : ∀ (P : Program) (E : Env) (s : State) (m : MethodId) (below : List Frame) (meth : Method) (c : Code) (ls : Array Slot), P.tables.exec = Jvm.exec → c.code = cc → c.maxLocals = maxL → s.vm.findClass y.cls = some m.cls → (∀ x ∈ ws, x.before av.toArray s = true) → meth.sig.returnType = ret → meth.locks = false → meth.name = y.name → PP g w s.heap → KK g s → va_AO RX2 s → va_D (va_A w sz) w → va_S (va_A w sz) s.heap s.heap [] → (∀ q, s.heap.size ≤ q → va_A w sz q) → lv_has ls maxL (lv_args 0 av) →
      W P l E rm s m av.toArray below meth c s.heap [] 0 0 (MQ below Qc av.toArray s mc ms (va_A w sz)) (F0 m 0 ls [])) : Met l y ws rm (PcN g av w sz) Qc mc ms (va_A w sz) := by
  refine Met.ofW (cc := cc) (maxL := maxL) (ret := ret) hy hw ?_
  intro p e s m args below meth c s₁ B hml hv
  obtain ⟨rfl, hsz, hP, hK, hD, hO⟩ := hv
  have hl := lv_entry av (n := maxL) hlen
  rw [lg_entry_eq]
  exact body p e s m below meth c _ B.exec B.bytes hml (findClass_of_methodNamed B.named) (atoms_spec (ws := ws) B.pre) B.returns B.notSynchronized (name_of_methodNamed B.named B.method).1 hP hK hO hD.self va_S.rf (fun q h => Or.inr (by rw [← hsz]; exact h)) hl
end EnterN
section RowsN
variable {P : Program} {l : Launch} {E : Env} {R : Room} {s : State} {m : MethodId} {args : Array Value} {below : List Frame} {meth : Method} {c : Code} {H : Heap} {locs : List Loc} {cells slots : Nat} {Q : State → Prop}
variable {cc : ByteArray} {pc : Nat} {ls : Array Slot} {rest : List Value} {A : Nat → Prop} {ws : va_W} {H0 : Heap} {g : Gx}
theorem n_newaI (hexec : P.tables.exec = Jvm.exec) (hb : c.code = cc) (harr : (Cond.arrayClass .int).before args s = true) (hK : KK g s) (hP : PP g ws H) (hD : va_D A ws) (hS : va_S A H0 H locs) (hA : ∀ q, H0.size ≤ q → A q) {N : Nat} (hN : N ≤ 1000) (hcells : cells + 1 ≤ R.cells) (hslots : slots + N ≤ R.slots) (hdg : decode cc pc = .ok (.newarray .int, 2)) (k : Nat) (hk : cells + 1 = k) (n : Nat) (hn : slots + N = n)
    (kk : ∀ (q : Nat) (H1 : Heap), PP g (ws ++ [(q, .inl (gI g, N, .inl (fun _ => nI 0)))]) H1 → va_D A (ws ++ [(q, .inl (gI g, N, .inl (fun _ => nI 0)))]) → va_S A H0 H1 locs → W P l E R s m args below meth c H1 locs k n Q (F0 m (pc + 2) ls (.ref q :: rest))) : W P l E R s m args below meth c H locs cells slots Q (F0 m pc ls (.int (nI N) :: rest)) := by
  subst hk; subst hn
  refine va_newa (atype := .int) (ty := .int) (a0 := (N, .inl (fun _ => nI 0))) hexec hb harr rfl hK.1 hP hD hS hA (fun cA => by rw [vp_cell_i]; rfl) (nI_pos (by omega)) (nI_clamp (by omega)) (by show N * 4 ≤ 536870912; omega) hcells hslots hdg (fun q cA H1 hK1 hP1 hD1 hS1 => ?_)
  have e : cA = gI g := Option.some.inj ((va_nm_int (hK1.2 3 (cA, .int) rfl).2).symm.trans (va_nm_int (hK.1.2 0 (gI g, .int) rfl).2))
  subst e
  exact kk q H1 hP1 hD1 hS1
theorem n_newaZ (hexec : P.tables.exec = Jvm.exec) (hb : c.code = cc) (harr : (Cond.arrayClass .boolean).before args s = true) (hK : KK g s) (hP : PP g ws H) (hD : va_D A ws) (hS : va_S A H0 H locs) (hA : ∀ q, H0.size ≤ q → A q) {N : Nat} (hN : N ≤ 1000) (hcells : cells + 1 ≤ R.cells) (hslots : slots + N ≤ R.slots) (hdg : decode cc pc = .ok (.newarray .boolean, 2)) (k : Nat) (hk : cells + 1 = k) (n : Nat) (hn : slots + N = n)
    (kk : ∀ (q : Nat) (H1 : Heap), PP g (ws ++ [(q, .inl (gZ g, N, .inl (fun _ => nI 0)))]) H1 → va_D A (ws ++ [(q, .inl (gZ g, N, .inl (fun _ => nI 0)))]) → va_S A H0 H1 locs → W P l E R s m args below meth c H1 locs k n Q (F0 m (pc + 2) ls (.ref q :: rest))) : W P l E R s m args below meth c H locs cells slots Q (F0 m pc ls (.int (nI N) :: rest)) := by
  subst hk; subst hn
  refine va_newa (atype := .boolean) (ty := .boolean) (a0 := (N, .inl (fun _ => nI 0))) hexec hb harr rfl hK.1 hP hD hS hA (fun cA => by rw [vp_cell_i]; rfl) (nI_pos (by omega)) (nI_clamp (by omega)) (by show N * 1 ≤ 536870912; omega) hcells hslots hdg (fun q cA H1 hK1 hP1 hD1 hS1 => ?_)
  have e : cA = gZ g := Option.some.inj ((show s.vm.findClass ("[" ++ (FieldType.boolean).toString) = some cA from (hK1.2 3 (cA, .boolean) rfl).2).symm.trans (show s.vm.findClass ("[" ++ (FieldType.boolean).toString) = some (gZ g) from (hK.1.2 1 (gZ g, .boolean) rfl).2))
  subst e
  exact kk q H1 hP1 hD1 hS1
theorem n_newq (hexec : P.tables.exec = Jvm.exec) (hb : c.code = cc) {own : String} {index : Nat} (hown : s.vm.findClass own = some m.cls) (hclink : (Cond.classLink own index RX2).before args s = true) (hover : va_AO RX2 s) (hK : KK g s) (hP : PP g ws H) (hD : va_D A ws) (hS : va_S A H0 H locs) (hA : ∀ q, H0.size ≤ q → A q) {N : Nat} (hN : N ≤ 1000) (hcells : cells + 1 ≤ R.cells) (hslots : slots + N ≤ R.slots) (hdg : decode cc pc = .ok (.anewarray index, 3)) (k : Nat) (hk : cells + 1 = k) (n : Nat) (hn : slots + N = n)
    (kk : ∀ (q : Nat) (H1 : Heap), PP g (ws ++ [(q, .inl (gS g, N, .inr (.inr (.inr (.inr (fun _ => none))))))]) H1 → va_D A (ws ++ [(q, .inl (gS g, N, .inr (.inr (.inr (.inr (fun _ => none))))))]) → va_S A H0 H1 locs → W P l E R s m args below meth c H1 locs k n Q (F0 m (pc + 3) ls (.ref q :: rest))) : W P l E R s m args below meth c H locs cells slots Q (F0 m pc ls (.int (nI N) :: rest)) := by
  subst hk; subst hn
  refine va_newq hexec hb hown hclink hover hK.1 hP hD hS hA (nI_pos (by omega)) (nI_clamp (by omega)) (by omega) hcells hslots hdg (fun q cA H1 hK1 hP1 hD1 hS1 => ?_)
  have e : cA = gS g := by
    obtain ⟨k1, c1, -, -, -, h1⟩ := (hK1.2 3 (cA, .object RX2) rfl).2
    obtain ⟨k2, c2, -, -, -, h2⟩ := (hK.1.2 2 (gS g, .object RX2) rfl).2
    exact Option.some.inj (h1.symm.trans h2)
  subst e
  exact kk q H1 hP1 hD1 hS1
theorem n_putF {D : va_G} {cl : List vw_C} {tys : List (ClassId × FieldType)} {a : Nat} (hexec : P.tables.exec = Jvm.exec) (hb : c.code = cc) {own ref C : String} {T : u_T} {N ci index : Nat} {Ts : List Cond} (hts : ∀ w ∈ Ts, w.before args s = true) (hin : ∀ w ∈ u_ws C T N, w ∈ Ts) (ty0 : Nat → FieldType) (hty : ∀ k, k < N → parseFieldDescriptor (T k).2.2.1 = some (ty0 k)) (hnm : ∀ a, a < N → ∀ b, b < N → a ≠ b → (T a).2.1 ≠ (T b).2.1) (hown : s.vm.findClass own = some m.cls) (hK : va_K D cl tys s) (hP : va_P D cl ws H) (hD : va_D A ws) (hS0 : va_S A H0 H locs) (q0 : Nat) {fs : List Value} (he : ws[q0]? = some (a, .inr (ci, fs))) (hc : cl[ci]? = some (C, T, N)) (k : Nat) (hk : k < N) (hlink : (Cond.fieldLink own index ref (T k).2.1 (T k).2.2.1).before args s = true) (hsame : ∀ x, s.fieldFound? (T k).1 (T k).2.1 (T k).2.2.1 = some x → s.fieldFound? ref (T k).2.1 (T k).2.2.1 = some x) (hfin : (T k).2.2.2 = true) (hin2 : meth.name = "<init>") (hdecl : (T k).1 = own) {ty : FieldType} {v : Value} (hd : parseFieldDescriptor (T k).2.2.1 = some ty) (hn : narrow ty v = v) (hfit : fits ty v = true) (hl : k < fs.length) {ws1 : va_W} (h1 : ws.set q0 (a, .inr (ci, fs.set k v)) = ws1)
    (hdg : decode cc pc = .ok (.putfield index, 3)) (kk : ∀ (H1 : Heap) (locs1 : List Loc), va_P D cl ws1 H1 → va_D A ws1 → va_S A H0 H1 locs1 → W P l E R s m args below meth c H1 locs1 cells slots Q (F0 m (pc + 3) ls rest)) : W P l E R s m args below meth c H locs cells slots Q (F0 m pc ls (v :: .ref a :: rest)) := va_putF hexec hb hts hin ty0 hty hnm hown hK hP hD hS0 q0 he hc k hk hlink hsame hfin hin2 hdecl hd hn hfit hl hdg (fun H1 locs1 hp hd' hs => by
    rw [h1] at hp hd'
    exact kk H1 locs1 hp hd' hs)
theorem zpreN {W0 w : va_W} {b : Nat} {As : List Value} (hK : KK g s) (hO : va_AO RX2 s) (hP : PP g W0 H) (hD : va_D A W0) (isC : List Nat) (hC : isC.map (fun i => W0[i]?) = w.map some) (hn : va_nd isC = true) : PreS s H (PcN g (.ref b :: As) w H.size) (.ref b :: As) := ⟨PcN.blind, fun U hU hW => ⟨rfl, by rw [hU], by rw [hU]; exact P_sub hP isC hC, hK.warm hW, (hD.sub isC hn hC).weaken (fun _ _ _ _ => trivial), va_AO.moved hW.alike hO⟩⟩
/-- a call that makes cells -/
theorem zcallN {S : Type} {W0 w wr : va_W} {w1 : S → va_W} {a : Array Value} {st0 : List Value} {mc ms : Nat} (hr : va_Run P l E R s m args below meth c H locs cells slots mc ms (F0 m pc ls st0) rest (QN g w H.size w1 a) (va_A w H.size)) (hP : PP g W0 H) (hD : va_D A W0) (hS : va_S A H0 H locs) (hA : ∀ q, H0.size ≤ q → A q) (isC isR : List Nat) (hC : isC.map (fun i => W0[i]?) = w.map some) (hR : isR.map (fun i => W0[i]?) = wr.map some) (hn : va_nd isR = true) (hdis : ∀ i ∈ isR, i ∉ isC) (k : Nat) (hk : cells + mc = k) (n : Nat) (hnn : slots + ms = n)
    (kk : ∀ (u : S) (H1 : Heap) (locs1 : List Loc), PP g (wr ++ w1 u) H1 → va_D A (wr ++ w1 u) → va_S A H0 H1 locs1 → W P l E R s m args below meth c H1 locs1 k n Q (F0 m (pc + 3) ls rest)) : W P l E R s m args below meth c H locs cells slots Q (F0 m pc ls st0) := by
  subst hk; subst hnn
  have hF := va_free hD hS hA isC hC
  refine va_callv hr hS (fun q _ h => hF q h) hF (fun u t H1 locs1 ht hvm hp hB hz hk hS1 => ?_)
  obtain ⟨hB1, hB2⟩ := hB
  rw [ht] at hB1
  obtain ⟨hP1, hD1⟩ := va_join hP hD isC isR hC hR hn hdis hk hF hB1 hB2
  exact kk u H1 locs1 hP1 hD1 hS1
theorem zretN {w : va_W} {S : Type} {w1 : S → va_W} {sz : Nat} (u : S) (hx : P.tables.exec = Jvm.exec) (hb : c.code = cc) (hr : meth.sig.returnType = none) (hlocks : meth.locks = false) (hS : va_S (va_A w sz) s.heap H locs) (hP : PP g (w1 u) H) (hD : va_D (va_A w sz) (w1 u)) (hdg : decode cc pc = .ok (.return_, 1)) : W P l E R s m args below meth c H locs cells slots (MQ below (QN g w sz w1) args s cells slots (va_A w sz)) (F0 m pc ls []) :=
  W.vret hx hb hr (fun t ht _ => ⟨⟨u, rfl, trivial, by rw [ht]; exact hP, hD⟩, hS.F ht⟩) hS.2.2 hdg hlocks
end RowsN
theorem arrV_congr (cI : ClassId) {N : Nat} {f f' : Nat → Value} (h : ∀ j, j < N → f j = f' j) : arrV cI N f = arrV cI N f' := by
  unfold arrV
  congr 1
  congr 1
  funext j
  exact h j.val j.isLt
/-- the cells of an array are as they are below its length -/
theorem P_same {g : Gx} {ws ws1 : va_W} {H : Heap} (k a : Nat) {cA : ClassId} {x x1 : vp_A} (hk : ws[k]? = some (a, .inl (cA, x))) (h : vp_cell cA x = vp_cell cA x1) (h1 : ws.set k (a, .inl (cA, x1)) = ws1) (hP : PP g ws H) : PP g ws1 H := by
  intro i q hq
  rw [← h1, List.getElem?_set] at hq
  by_cases e : k = i
  · rw [if_pos e] at hq
    by_cases hl : k < ws.length
    · rw [if_pos hl] at hq
      have hq := Option.some.inj hq
      subst hq
      show H[a]? = some (vp_cell cA x1)
      rw [← h]
      exact hP k _ hk
    · rw [if_neg hl] at hq; cases hq
  · rw [if_neg e] at hq
    exact hP i q hq
section RowsQ
variable {P : Program} {l : Launch} {E : Env} {R : Room} {s : State} {m : MethodId} {args : Array Value} {below : List Frame} {meth : Method} {c : Code} {H : Heap} {locs : List Loc} {cells slots : Nat} {Q : State → Prop}
variable {cc : ByteArray} {pc : Nat} {ls : Array Slot} {rest : List Value} {A : Nat → Prop} {ws : va_W} {H0 : Heap} {g : Gx}
theorem n_aast (hexec : P.tables.exec = Jvm.exec) (hb : c.code = cc) (hK : KK g s) (hP : PP g ws H) (hD : va_D A ws) (hS : va_S A H0 H locs) (q0 qk : Nat) {n v a : Nat} {vs : List Value} {f : Nat → Option Nat} (ha : ws[q0]? = some (a, .inl (gS g, n, .inr (.inr (.inr (.inr f)))))) (hv : ws[qk]? = some (v, .inr (2, vs))) {i : Nat} (hi : i < n) (hn : n < 2 ^ 31) {ws1 : va_W} (h1 : ws.set q0 (a, .inl (gS g, n, .inr (.inr (.inr (.inr (va_up f i (some v))))))) = ws1) (hdg : decode cc pc = .ok (.aastore, 1))
    (kk : ∀ (H1 : Heap) (locs1 : List Loc), PP g ws1 H1 → va_D A ws1 → va_S A H0 H1 locs1 → W P l E R s m args below meth c H1 locs1 cells slots Q (F0 m (pc + 1) ls rest)) : W P l E R s m args below meth c H locs cells slots Q (F0 m pc ls (.ref v :: .int (nI i) :: .ref a :: rest)) := va_astq hexec hb hK.1 hP hD hS q0 2 qk 2 ha rfl hv rfl (vp_in_nI hi hn) hdg (fun H1 locs1 hp hd hs => by
    rw [nI_clamp (Nat.lt_trans hi hn), h1] at hp hd
    exact kk H1 locs1 hp hd hs)
end RowsQ
