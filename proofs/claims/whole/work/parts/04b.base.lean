/-! my own rows, second part: comparisons of small numbers, rows of arrays, calls -/
section Rows2
variable {P : Program} {l : Launch} {E : Env} {R : Room} {s : State} {m : MethodId} {args : Array Value} {below : List Frame} {meth : Method} {c : Code} {H : Heap} {locs : List Loc} {cells slots : Nat} {Q : State → Prop}
variable {cc : ByteArray} {pc : Nat} {ls : Array Slot} {rest : List Value}
theorem n_icmp_lt (hexec : P.tables.exec = Jvm.exec) (hb : c.code = cc) {a b : Nat} (ha : a < 2 ^ 31) (hb2 : b < 2 ^ 31) {off : Int} {tgt : Nat} (hdg : decode cc pc = .ok (.if_icmp .lt off, 3)) (ht : (pc : Int) + off = (tgt : Int)) (kt : a < b → W P l E R s m args below meth c H locs cells slots Q (F0 m tgt ls rest)) (kf : b ≤ a → W P l E R s m args below meth c H locs cells slots Q (F0 m (pc + 3) ls rest)) : W P l E R s m args below meth c H locs cells slots Q (F0 m pc ls (.int (nI b) :: .int (nI a) :: rest)) := lv_icmp_lt hexec hb hdg ht (fun q => kt ((nI_ltI ha hb2).mp q)) (fun q => kf (Nat.le_of_not_lt (fun z => q ((nI_ltI ha hb2).mpr z))))
theorem n_icmp_ge (hexec : P.tables.exec = Jvm.exec) (hb : c.code = cc) {a b : Nat} (ha : a < 2 ^ 31) (hb2 : b < 2 ^ 31) {off : Int} {tgt : Nat} (hdg : decode cc pc = .ok (.if_icmp .ge off, 3)) (ht : (pc : Int) + off = (tgt : Int)) (kt : b ≤ a → W P l E R s m args below meth c H locs cells slots Q (F0 m tgt ls rest)) (kf : a < b → W P l E R s m args below meth c H locs cells slots Q (F0 m (pc + 3) ls rest)) : W P l E R s m args below meth c H locs cells slots Q (F0 m pc ls (.int (nI b) :: .int (nI a) :: rest)) := lv_icmp_ge hexec hb hdg ht (fun q => kt ((nI_leI hb2 ha).mp q)) (fun q => kf (Nat.lt_of_not_le (fun z => q ((nI_leI hb2 ha).mpr z))))
theorem n_icmp_gt (hexec : P.tables.exec = Jvm.exec) (hb : c.code = cc) {a b : Nat} (ha : a < 2 ^ 31) (hb2 : b < 2 ^ 31) {off : Int} {tgt : Nat} (hdg : decode cc pc = .ok (.if_icmp .gt off, 3)) (ht : (pc : Int) + off = (tgt : Int)) (kt : b < a → W P l E R s m args below meth c H locs cells slots Q (F0 m tgt ls rest)) (kf : a ≤ b → W P l E R s m args below meth c H locs cells slots Q (F0 m (pc + 3) ls rest)) : W P l E R s m args below meth c H locs cells slots Q (F0 m pc ls (.int (nI b) :: .int (nI a) :: rest)) := lv_icmp_gt hexec hb hdg ht (fun q => kt ((nI_ltI hb2 ha).mp q)) (fun q => kf (Nat.le_of_not_lt (fun z => q ((nI_ltI hb2 ha).mpr z))))
theorem n_icmp_le (hexec : P.tables.exec = Jvm.exec) (hb : c.code = cc) {a b : Nat} (ha : a < 2 ^ 31) (hb2 : b < 2 ^ 31) {off : Int} {tgt : Nat} (hdg : decode cc pc = .ok (.if_icmp .le off, 3)) (ht : (pc : Int) + off = (tgt : Int)) (kt : a ≤ b → W P l E R s m args below meth c H locs cells slots Q (F0 m tgt ls rest)) (kf : b < a → W P l E R s m args below meth c H locs cells slots Q (F0 m (pc + 3) ls rest)) : W P l E R s m args below meth c H locs cells slots Q (F0 m pc ls (.int (nI b) :: .int (nI a) :: rest)) := lv_icmp_le hexec hb hdg ht (fun q => kt ((nI_leI ha hb2).mp q)) (fun q => kf (Nat.lt_of_not_le (fun z => q ((nI_leI ha hb2).mpr z))))
theorem nI_n0 {a : Nat} (ha : a < 2 ^ 31) : ¬ nI a < 0 := nI_pos ha
theorem n_if_lt (hexec : P.tables.exec = Jvm.exec) (hb : c.code = cc) {a : Nat} (ha : a < 2 ^ 31) {off : Int} (hdg : decode cc pc = .ok (.ifCond .lt off, 3)) (tgt : Nat) (ht : (pc : Int) + off = (tgt : Int)) (kf : W P l E R s m args below meth c H locs cells slots Q (F0 m (pc + 3) ls rest)) : W P l E R s m args below meth c H locs cells slots Q (F0 m pc ls (.int (nI a) :: rest)) := lv_if_lt (tgt := tgt) hexec hb hdg ht (fun q => absurd q (nI_pos ha)) (fun _ => kf)
theorem n_if_ge (hexec : P.tables.exec = Jvm.exec) (hb : c.code = cc) {a : Nat} (ha : a < 2 ^ 31) {off : Int} {tgt : Nat} (hdg : decode cc pc = .ok (.ifCond .ge off, 3)) (ht : (pc : Int) + off = (tgt : Int)) (kt : W P l E R s m args below meth c H locs cells slots Q (F0 m tgt ls rest)) : W P l E R s m args below meth c H locs cells slots Q (F0 m pc ls (.int (nI a) :: rest)) := lv_if_ge hexec hb hdg ht (fun _ => kt) (fun q => absurd (nI_pos' ha) q)
theorem nI_le0 {a : Nat} (ha : a < 2 ^ 31) : nI a ≤ 0 ↔ a = 0 := by rw [← nI_0, nI_leI ha (by decide)]; omega
theorem n_if_le (hexec : P.tables.exec = Jvm.exec) (hb : c.code = cc) {a : Nat} (ha : a < 2 ^ 31) {off : Int} {tgt : Nat} (hdg : decode cc pc = .ok (.ifCond .le off, 3)) (ht : (pc : Int) + off = (tgt : Int)) (kt : a = 0 → W P l E R s m args below meth c H locs cells slots Q (F0 m tgt ls rest)) (kf : 0 < a → W P l E R s m args below meth c H locs cells slots Q (F0 m (pc + 3) ls rest)) : W P l E R s m args below meth c H locs cells slots Q (F0 m pc ls (.int (nI a) :: rest)) := lv_if_le hexec hb hdg ht (fun q => kt ((nI_le0 ha).mp q)) (fun q => kf (Nat.pos_of_ne_zero (fun z => q ((nI_le0 ha).mpr z))))
theorem n_if_gt (hexec : P.tables.exec = Jvm.exec) (hb : c.code = cc) {a : Nat} (ha : a < 2 ^ 31) {off : Int} {tgt : Nat} (hdg : decode cc pc = .ok (.ifCond .gt off, 3)) (ht : (pc : Int) + off = (tgt : Int)) (kt : 0 < a → W P l E R s m args below meth c H locs cells slots Q (F0 m tgt ls rest)) (kf : a = 0 → W P l E R s m args below meth c H locs cells slots Q (F0 m (pc + 3) ls rest)) : W P l E R s m args below meth c H locs cells slots Q (F0 m pc ls (.int (nI a) :: rest)) := lv_if_gt hexec hb hdg ht (fun q => kt (Nat.pos_of_ne_zero (fun z => absurd q (by rw [z, nI_0]; exact Int32.lt_irrefl)))) (fun q => kf (by
    rcases Nat.eq_zero_or_pos a with z | z
    · exact z
    · exact absurd (by rw [← nI_0]; exact nI_lt z ha) q))
theorem n_iinc (hexec : P.tables.exec = Jvm.exec) (hb : c.code = cc) {i nL k : Nat} {n : Int} {a d : Nat} {lv lv' : List (Nat × Value)} (hdg : decode cc pc = .ok (.iinc i n, 3)) (h : lv_has ls nL lv) (hk : lv[k]? = some (i, .int (nI a))) (hv : Int32.ofInt n = nI d) (hn : i < nL) (hl : (i, Value.int (nI (a + d))) :: lv.filter (fun q => !(q.1 == i) && !(q.1 + 1 == i && q.2.category == 2)) = lv')
    (kk : ∀ ls' : Array Slot, lv_has ls' nL lv' → W P l E R s m args below meth c H locs cells slots Q (F0 m (pc + 3) ls' rest)) : W P l E R s m args below meth c H locs cells slots Q (F0 m pc ls rest) := lv_iinc (v := nI (a + d)) (lv' := lv') hexec hb hdg h hk (by rw [hv, nI_add]) hn hl kk
variable {D : va_G} {cl : List vw_C} {A : Nat → Prop} {a : Nat} {tys : List (ClassId × FieldType)} {ws : va_W} {H0 : Heap}
/-- a cell of an array of ints, at a small number -/
theorem n_iald (hexec : P.tables.exec = Jvm.exec) (hb : c.code = cc) (hK : va_K D cl tys s) (hP : va_P D cl ws H) (q0 t0 : Nat) {cA : ClassId} {n : Nat} {f : Nat → Int32} (ha : ws[q0]? = some (a, .inl (cA, n, .inl f))) (ht : tys[t0]? = some (cA, .int)) {i : Nat} (hi : i < n) (hn : n < 2 ^ 31) {v : Int32} (hv : f i = v) (hdg : decode cc pc = .ok (.iaload, 1))
    (kk : W P l E R s m args below meth c H locs cells slots Q (F0 m (pc + 1) ls (.int v :: rest))) : W P l E R s m args below meth c H locs cells slots Q (F0 m pc ls (.int (nI i) :: .ref a :: rest)) := va_iald hexec hb hK hP q0 t0 ha ht (vp_in_nI hi hn) hdg (by rw [nI_clamp (Nat.lt_trans hi hn), hv]; exact kk)
theorem n_zald (hexec : P.tables.exec = Jvm.exec) (hb : c.code = cc) (hK : va_K D cl tys s) (hP : va_P D cl ws H) (q0 t0 : Nat) {cA : ClassId} {n : Nat} {f : Nat → Int32} (ha : ws[q0]? = some (a, .inl (cA, n, .inl f))) (ht : tys[t0]? = some (cA, .boolean)) {i : Nat} (hi : i < n) (hn : n < 2 ^ 31) {v : Int32} (hv : f i = v) (hdg : decode cc pc = .ok (.baload, 1))
    (kk : W P l E R s m args below meth c H locs cells slots Q (F0 m (pc + 1) ls (.int v :: rest))) : W P l E R s m args below meth c H locs cells slots Q (F0 m pc ls (.int (nI i) :: .ref a :: rest)) := va_zald hexec hb hK hP q0 t0 ha ht (vp_in_nI hi hn) hdg (by rw [nI_clamp (Nat.lt_trans hi hn), hv]; exact kk)
theorem n_aald (hexec : P.tables.exec = Jvm.exec) (hb : c.code = cc) (hK : va_K D cl tys s) (hP : va_P D cl ws H) (q0 t0 : Nat) {cA : ClassId} {C : String} {n : Nat} {f : Nat → Option Nat} (ha : ws[q0]? = some (a, .inl (cA, n, .inr (.inr (.inr (.inr f)))))) (ht : tys[t0]? = some (cA, .object C)) {i : Nat} (hi : i < n) (hn : n < 2 ^ 31) {b : Nat} (hv : f i = some b) (hdg : decode cc pc = .ok (.aaload, 1))
    (kk : W P l E R s m args below meth c H locs cells slots Q (F0 m (pc + 1) ls (.ref b :: rest))) : W P l E R s m args below meth c H locs cells slots Q (F0 m pc ls (.int (nI i) :: .ref a :: rest)) := va_aldq hexec hb hK hP q0 t0 ha ht (vp_in_nI hi hn) hdg (by rw [nI_clamp (Nat.lt_trans hi hn), hv]; exact kk)
/-- a cell of an array of ints becomes v: f' is the row behind it -/
theorem n_iast (hexec : P.tables.exec = Jvm.exec) (hb : c.code = cc) (hK : va_K D cl tys s) (hP : va_P D cl ws H) (hD : va_D A ws) (hS : va_S A H0 H locs) (q0 t0 : Nat) {cA : ClassId} {n : Nat} {f : Nat → Int32} (ha : ws[q0]? = some (a, .inl (cA, n, .inl f))) (ht : tys[t0]? = some (cA, .int)) {i : Nat} {x : Int32} (hi : i < n) (hn : n < 2 ^ 31) (f' : Nat → Int32) (hf : upd f i x = f') {ws1 : va_W} (h1 : ws.set q0 (a, .inl (cA, n, .inl f')) = ws1) (hdg : decode cc pc = .ok (.iastore, 1))
    (kk : ∀ (H1 : Heap) (locs1 : List Loc), va_P D cl ws1 H1 → va_D A ws1 → va_S A H0 H1 locs1 → W P l E R s m args below meth c H1 locs1 cells slots Q (F0 m (pc + 1) ls rest)) : W P l E R s m args below meth c H locs cells slots Q (F0 m pc ls (.int x :: .int (nI i) :: .ref a :: rest)) := va_iast hexec hb hK hP hD hS q0 t0 ha ht (vp_in_nI hi hn) hdg (fun H1 locs1 hp hd hs => by
    rw [nI_clamp (Nat.lt_trans hi hn), hf, h1] at hp hd
    exact kk H1 locs1 hp hd hs)
theorem n_zast (hexec : P.tables.exec = Jvm.exec) (hb : c.code = cc) (hK : va_K D cl tys s) (hP : va_P D cl ws H) (hD : va_D A ws) (hS : va_S A H0 H locs) (q0 t0 : Nat) {cA : ClassId} {n : Nat} {f : Nat → Int32} (ha : ws[q0]? = some (a, .inl (cA, n, .inl f))) (ht : tys[t0]? = some (cA, .boolean)) {i : Nat} {x : Int32} (hi : i < n) (hn : n < 2 ^ 31) (hx : vp_nar .boolean x = x) (f' : Nat → Int32) (hf : upd f i x = f') {ws1 : va_W} (h1 : ws.set q0 (a, .inl (cA, n, .inl f')) = ws1) (hdg : decode cc pc = .ok (.bastore, 1))
    (kk : ∀ (H1 : Heap) (locs1 : List Loc), va_P D cl ws1 H1 → va_D A ws1 → va_S A H0 H1 locs1 → W P l E R s m args below meth c H1 locs1 cells slots Q (F0 m (pc + 1) ls rest)) : W P l E R s m args below meth c H locs cells slots Q (F0 m pc ls (.int x :: .int (nI i) :: .ref a :: rest)) := va_zast hexec hb hK hP hD hS q0 t0 ha ht (vp_in_nI hi hn) hdg (fun H1 locs1 hp hd hs => by
    rw [nI_clamp (Nat.lt_trans hi hn), hx, hf, h1] at hp hd
    exact kk H1 locs1 hp hd hs)
/-- a field of an object becomes v: ws1 is the world behind it -/
theorem n_put (hexec : P.tables.exec = Jvm.exec) (hb : c.code = cc) {own ref C : String} {T : u_T} {N ci index : Nat} {Ts : List Cond} (hts : ∀ w ∈ Ts, w.before args s = true) (hin : ∀ w ∈ u_ws C T N, w ∈ Ts) (ty0 : Nat → FieldType) (hty : ∀ k, k < N → parseFieldDescriptor (T k).2.2.1 = some (ty0 k)) (hnm : ∀ a, a < N → ∀ b, b < N → a ≠ b → (T a).2.1 ≠ (T b).2.1) (hown : s.vm.findClass own = some m.cls) (hK : va_K D cl tys s) (hP : va_P D cl ws H) (hD : va_D A ws) (hS0 : va_S A H0 H locs) (q0 : Nat) {fs : List Value} (he : ws[q0]? = some (a, .inr (ci, fs))) (hc : cl[ci]? = some (C, T, N)) (k : Nat) (hk : k < N) (hlink : (Cond.fieldLink own index ref (T k).2.1 (T k).2.2.1).before args s = true) (hsame : ∀ x, s.fieldFound? (T k).1 (T k).2.1 (T k).2.2.1 = some x → s.fieldFound? ref (T k).2.1 (T k).2.2.1 = some x) (hfin : (T k).2.2.2 = false) {ty : FieldType} {v : Value} (hd : parseFieldDescriptor (T k).2.2.1 = some ty) (hn : narrow ty v = v) (hfit : fits ty v = true) (hl : k < fs.length) {ws1 : va_W} (h1 : ws.set q0 (a, .inr (ci, fs.set k v)) = ws1)
    (hdg : decode cc pc = .ok (.putfield index, 3)) (kk : ∀ (H1 : Heap) (locs1 : List Loc), va_P D cl ws1 H1 → va_D A ws1 → va_S A H0 H1 locs1 → W P l E R s m args below meth c H1 locs1 cells slots Q (F0 m (pc + 3) ls rest)) : W P l E R s m args below meth c H locs cells slots Q (F0 m pc ls (v :: .ref a :: rest)) := va_put hexec hb hts hin ty0 hty hnm hown hK hP hD hS0 q0 he hc k hk hlink hsame hfin hd hn hfit hl hdg (fun H1 locs1 hp hd' hs => by
    rw [h1] at hp hd'
    exact kk H1 locs1 hp hd' hs)
theorem P_nil {g : Gx} (H : Heap) : PP g [] H := fun k q h => by simp at h
/-- a call that writes nothing -/
theorem zcallR {post : Int32 → Prop} {a : Array Value} {st0 : List Value} (hr : va_Run P l E R s m args below meth c H locs cells slots 0 0 (F0 m pc ls st0) rest (vp_Si post a) (fun _ => False)) (kk : ∀ r : Int32, post r → W P l E R s m args below meth c H locs cells slots Q (F0 m (pc + 3) ls (.int r :: rest))) : W P l E R s m args below meth c H locs cells slots Q (F0 m pc ls st0) := vp_callSi hr.run kk
theorem zcallRL {post : Int64 → Prop} {a : Array Value} {st0 : List Value} (hr : va_Run P l E R s m args below meth c H locs cells slots 0 0 (F0 m pc ls st0) rest (vp_Sl post a) (fun _ => False)) (kk : ∀ r : Int64, post r → W P l E R s m args below meth c H locs cells slots Q (F0 m (pc + 3) ls (.long r :: rest))) : W P l E R s m args below meth c H locs cells slots Q (F0 m pc ls st0) := vp_callSl hr.run kk
theorem zpreV {g : Gx} {w : va_W} {C : String} {b : Nat} {As : List Value} (hK : KK g s) (hP : PP g w H) (hrc : ∃ cellB : Cell, H[b]? = some cellB ∧ cellB.vm.isStatics = false ∧ s.vm.findClass C = some cellB.cls) : PreV s H C b (PcR g (.ref b :: As) w) As := ⟨PcR.blind, hrc, fun U hU hW => ⟨rfl, by rw [hU]; exact hP, hK.warm hW⟩⟩
theorem zpreS {g : Gx} {w : va_W} {As : List Value} (hK : KK g s) (hP : PP g w H) : PreS s H (PcR g As w) As := ⟨PcR.blind, fun U hU hW => ⟨rfl, by rw [hU]; exact hP, hK.warm hW⟩⟩
theorem P_sub {g : Gx} {W0 w : va_W} (hP : PP g W0 H) (isC : List Nat) (hC : isC.map (fun i => W0[i]?) = w.map some) : PP g w H := by
  intro k q hq
  have h3 : (isC.map (fun i => W0[i]?))[k]? = some (some q) := by rw [hC, List.getElem?_map, hq]; rfl
  rw [List.getElem?_map] at h3
  cases hi : isC[k]? with
  | none => rw [hi] at h3; cases h3
  | some i => rw [hi] at h3; exact hP i q (Option.some.inj h3)
theorem zpreVM {g : Gx} {W0 w : va_W} {C : String} {b : Nat} {As : List Value} (hK : KK g s) (hP : PP g W0 H) (hD : va_D A W0) (isC : List Nat) (hC : isC.map (fun i => W0[i]?) = w.map some) (hn : va_nd isC = true) (hrc : ∃ cellB : Cell, H[b]? = some cellB ∧ cellB.vm.isStatics = false ∧ s.vm.findClass C = some cellB.cls) : PreV s H C b (PcM g (.ref b :: As) w) As := ⟨PcM.blind, hrc, fun U hU hW => ⟨rfl, by rw [hU]; exact P_sub hP isC hC, hK.warm hW, (hD.sub isC hn hC).weaken (fun _ _ _ _ => trivial)⟩⟩
theorem zpreSM {g : Gx} {W0 w : va_W} {As : List Value} (hK : KK g s) (hP : PP g W0 H) (hD : va_D A W0) (isC : List Nat) (hC : isC.map (fun i => W0[i]?) = w.map some) (hn : va_nd isC = true) : PreS s H (PcM g As w) As := ⟨PcM.blind, fun U hU hW => ⟨rfl, by rw [hU]; exact P_sub hP isC hC, hK.warm hW, (hD.sub isC hn hC).weaken (fun _ _ _ _ => trivial)⟩⟩
/-- a call that writes in its own cells, and answers an int -/
theorem zcallM {g : Gx} {S : Type} {W0 w : va_W} {post : Int32 → S → Prop} {w1 : S → va_W} {a : Array Value} {st0 : List Value} (hr : va_Run P l E R s m args below meth c H locs cells slots 0 0 (F0 m pc ls st0) rest (va_Qi post (fun u t => PP g (w1 u) t.heap) (inW w) a) (inW w)) (hP : PP g W0 H) (hD : va_D A W0) (hS : va_S A H0 H locs) (isC : List Nat) (hC : isC.map (fun i => W0[i]?) = w.map some) (ws1 : S → va_W) (hn : ∀ u, (w1 u).length = w.length) (hs : ∀ u, setAll W0 isC (w1 u) = ws1 u) (ha : ∀ u, (ws1 u).map (fun x => x.1) = W0.map (fun x => x.1))
    (kk : ∀ (r : Int32) (u : S) (H1 : Heap) (locs1 : List Loc), post r u → PP g (ws1 u) H1 → va_D A (ws1 u) → va_S A H0 H1 locs1 → W P l E R s m args below meth c H1 locs1 cells slots Q (F0 m (pc + 3) ls (.int r :: rest))) : W P l E R s m args below meth c H locs cells slots Q (F0 m pc ls st0) := by
  have hf := in_sub hD isC hC
  refine va_calli hr hS (fun q _ h => hf q h) hf (fun r u t H1 locs1 ht hvm hp hB hz hk hS1 => ?_)
  rw [ht] at hB
  obtain ⟨hP1, hD1⟩ := mu_join hP hD isC hC (hn u) (hs u) (ha u) hk hB
  exact kk r u H1 locs1 hp hP1 hD1 hS1
theorem zcallML {g : Gx} {S : Type} {W0 w : va_W} {post : Int64 → S → Prop} {w1 : S → va_W} {a : Array Value} {st0 : List Value} (hr : va_Run P l E R s m args below meth c H locs cells slots 0 0 (F0 m pc ls st0) rest (va_Ql post (fun u t => PP g (w1 u) t.heap) (inW w) a) (inW w)) (hP : PP g W0 H) (hD : va_D A W0) (hS : va_S A H0 H locs) (isC : List Nat) (hC : isC.map (fun i => W0[i]?) = w.map some) (ws1 : S → va_W) (hn : ∀ u, (w1 u).length = w.length) (hs : ∀ u, setAll W0 isC (w1 u) = ws1 u) (ha : ∀ u, (ws1 u).map (fun x => x.1) = W0.map (fun x => x.1))
    (kk : ∀ (r : Int64) (u : S) (H1 : Heap) (locs1 : List Loc), post r u → PP g (ws1 u) H1 → va_D A (ws1 u) → va_S A H0 H1 locs1 → W P l E R s m args below meth c H1 locs1 cells slots Q (F0 m (pc + 3) ls (.long r :: rest))) : W P l E R s m args below meth c H locs cells slots Q (F0 m pc ls st0) := by
  have hf := in_sub hD isC hC
  refine va_calll hr hS (fun q _ h => hf q h) hf (fun r u t H1 locs1 ht hvm hp hB hz hk hS1 => ?_)
  rw [ht] at hB
  obtain ⟨hP1, hD1⟩ := mu_join hP hD isC hC (hn u) (hs u) (ha u) hk hB
  exact kk r u H1 locs1 hp hP1 hD1 hS1
theorem zcallMv {g : Gx} {S : Type} {W0 w : va_W} {post : S → Prop} {w1 : S → va_W} {a : Array Value} {st0 : List Value} (hr : va_Run P l E R s m args below meth c H locs cells slots 0 0 (F0 m pc ls st0) rest (va_Qv post (fun u t => PP g (w1 u) t.heap) (inW w) a) (inW w)) (hP : PP g W0 H) (hD : va_D A W0) (hS : va_S A H0 H locs) (isC : List Nat) (hC : isC.map (fun i => W0[i]?) = w.map some) (ws1 : S → va_W) (hn : ∀ u, (w1 u).length = w.length) (hs : ∀ u, setAll W0 isC (w1 u) = ws1 u) (ha : ∀ u, (ws1 u).map (fun x => x.1) = W0.map (fun x => x.1))
    (kk : ∀ (u : S) (H1 : Heap) (locs1 : List Loc), post u → PP g (ws1 u) H1 → va_D A (ws1 u) → va_S A H0 H1 locs1 → W P l E R s m args below meth c H1 locs1 cells slots Q (F0 m (pc + 3) ls rest)) : W P l E R s m args below meth c H locs cells slots Q (F0 m pc ls st0) := by
  have hf := in_sub hD isC hC
  refine va_callv hr hS (fun q _ h => hf q h) hf (fun u t H1 locs1 ht hvm hp hB hz hk hS1 => ?_)
  rw [ht] at hB
  obtain ⟨hP1, hD1⟩ := mu_join hP hD isC hC (hn u) (hs u) (ha u) hk hB
  exact kk u H1 locs1 hp hP1 hD1 hS1
end Rows2
theorem upd_nI (f : Nat → Nat) (k v : Nat) : upd (fun j => nI (f j)) k (nI v) = fun j => nI (va_up f k v j) := by
  funext j
  by_cases h : j = k <;> simp [upd, va_up, h]
/-! numbers -/
def b01 (c : Prop) [Decidable c] : Nat := if c then 1 else 0
theorem b01_le (c : Prop) [Decidable c] : b01 c ≤ 1 := by unfold b01; split <;> omega
theorem b01_t {c : Prop} [Decidable c] (h : c) : b01 c = 1 := if_pos h
theorem b01_f {c : Prop} [Decidable c] (h : ¬ c) : b01 c = 0 := if_neg h
theorem b01_0 {c : Prop} [Decidable c] : b01 c = 0 ↔ ¬ c := by unfold b01; split <;> simp [*]
theorem b01_n0 {c : Prop} [Decidable c] : b01 c ≠ 0 ↔ c := by unfold b01; split <;> simp [*]
theorem nar_b {a : Nat} (h : a ≤ 1) : narrow .boolean (.int (nI a)) = .int (nI a) := by
  rcases (show a = 0 ∨ a = 1 by omega) with rfl | rfl <;> rfl
theorem vnar_b {a : Nat} (h : a ≤ 1) : vp_nar .boolean (nI a) = nI a := by
  rcases (show a = 0 ∨ a = 1 by omega) with rfl | rfl <;> rfl
/-- between two small numbers -/
theorem nI_btw {x : Int32} {n : Nat} (hn : n < 2 ^ 31) (h0 : ¬ x < 0) (h1 : x ≤ nI n) : ∃ j, j ≤ n ∧ x = nI j := by
  obtain ⟨j, hj, rfl⟩ := nI_of h0
  exact ⟨j, (nI_leI hj hn).mp h1, rfl⟩
theorem nI_btl {x : Int32} {n : Nat} (hn : n < 2 ^ 31) (h0 : ¬ x < 0) (h1 : x < nI n) : ∃ j, j < n ∧ x = nI j := by
  obtain ⟨j, hj, rfl⟩ := nI_of h0
  exact ⟨j, (nI_ltI hj hn).mp h1, rfl⟩
