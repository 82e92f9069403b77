abbrev wS (g : Gx) (sa ca : Nat) (la : Int32) (le : Nat) (ce : Nat → Int32) : va_W := [(sa, .inr (2, [.ref ca, .int la, .int (nI le)])), (ca, .inl (gI g, 60, .inl ce))]
abbrev wS2 (g : Gx) (sb cb : Nat) (lb : Int32) (lf : Nat) (cf : Nat → Int32) : va_W := wS g sb cb lb lf cf
abbrev wA (g : Gx) (ca : Nat) (ce : Nat → Int32) : va_W := [(ca, .inl (gI g, 60, .inl ce))]
abbrev wR (g : Gx) (re rua rla rma rda : Nat) (nr : Nat) (ru rl rm rd : Nat → Nat) : va_W := [(re, .inr (1, [.ref rua, .ref rla, .ref rma, .ref rda, .int (nI nr)])), (rua, .inl (gI g, 8, .inl (fun j => nI (ru j)))), (rla, .inl (gI g, 8, .inl (fun j => nI (rl j)))), (rma, .inl (gI g, 8, .inl (fun j => nI (rm j)))), (rda, .inl (gZ g, 8, .inl (fun j => nI (rd j))))]
abbrev wV (g : Gx) (vo vpa vma : Nat) (vn : Nat) (vp vm : Nat → Int32) : va_W := [(vo, .inr (3, [.ref vpa, .ref vma, .int (nI vn)])), (vpa, .inl (gI g, 20, .inl vp)), (vma, .inl (gI g, 20, .inl vm))]
abbrev wSS (g : Gx) (sa : Nat) (ca : Nat) (sb : Nat) (cb : Nat) (la : Int32) (le : Nat) (ce : Nat → Int32) (lb : Int32) (lf : Nat) (cf : Nat → Int32) : va_W := wS g sa ca la le ce ++ wS2 g sb cb lb lf cf
abbrev wRC (g : Gx) (re : Nat) (rua : Nat) (rla : Nat) (rma : Nat) (rda : Nat) (co : Nat) (ck : Nat) (ch : Nat) (cl : Nat) (nr : Nat) (ru : Nat → Nat) (rl : Nat → Nat) (rm : Nat → Nat) (rd : Nat → Nat) (np : Nat) (sl : Nat) (kd : Nat → Nat) (hg : Nat → Nat) (lk : Nat → Nat) : va_W := wR g re rua rla rma rda nr ru rl rm rd ++ wC g co ck ch cl np sl kd hg lk
abbrev wVS (g : Gx) (vo : Nat) (vpa : Nat) (vma : Nat) (sa : Nat) (ca : Nat) (vn : Nat) (vp : Nat → Int32) (vm : Nat → Int32) (la : Int32) (le : Nat) (ce : Nat → Int32) : va_W := wV g vo vpa vma vn vp vm ++ wS g sa ca la le ce
abbrev wVC (g : Gx) (vo : Nat) (vpa : Nat) (vma : Nat) (co : Nat) (ck : Nat) (ch : Nat) (cl : Nat) (vn : Nat) (vp : Nat → Int32) (vm : Nat → Int32) (np : Nat) (sl : Nat) (kd : Nat → Nat) (hg : Nat → Nat) (lk : Nat → Nat) : va_W := wV g vo vpa vma vn vp vm ++ wC g co ck ch cl np sl kd hg lk
theorem ad_wS {g : Gx} {sa : Nat} {ca : Nat} {la : Int32} {le : Nat} {ce : Nat → Int32} : (wS g sa ca la le ce).map (fun x => x.1) = [sa, ca] := rfl
theorem lz_wS {g : Gx} {sa : Nat} {ca : Nat} {la : Int32} {le : Nat} {ce : Nat → Int32} : (wS g sa ca la le ce).length = 2 := rfl
theorem ad_wA {g : Gx} {ca : Nat} {ce : Nat → Int32} : (wA g ca ce).map (fun x => x.1) = [ca] := rfl
theorem lz_wA {g : Gx} {ca : Nat} {ce : Nat → Int32} : (wA g ca ce).length = 1 := rfl
theorem ad_wS2 {g : Gx} {sb : Nat} {cb : Nat} {lb : Int32} {lf : Nat} {cf : Nat → Int32} : (wS2 g sb cb lb lf cf).map (fun x => x.1) = [sb, cb] := rfl
theorem lz_wS2 {g : Gx} {sb : Nat} {cb : Nat} {lb : Int32} {lf : Nat} {cf : Nat → Int32} : (wS2 g sb cb lb lf cf).length = 2 := rfl
theorem ad_wSS {g : Gx} {sa : Nat} {ca : Nat} {sb : Nat} {cb : Nat} {la : Int32} {le : Nat} {ce : Nat → Int32} {lb : Int32} {lf : Nat} {cf : Nat → Int32} : (wSS g sa ca sb cb la le ce lb lf cf).map (fun x => x.1) = [sa, ca, sb, cb] := rfl
theorem lz_wSS {g : Gx} {sa : Nat} {ca : Nat} {sb : Nat} {cb : Nat} {la : Int32} {le : Nat} {ce : Nat → Int32} {lb : Int32} {lf : Nat} {cf : Nat → Int32} : (wSS g sa ca sb cb la le ce lb lf cf).length = 4 := rfl
theorem ad_wR {g : Gx} {re : Nat} {rua : Nat} {rla : Nat} {rma : Nat} {rda : Nat} {nr : Nat} {ru : Nat → Nat} {rl : Nat → Nat} {rm : Nat → Nat} {rd : Nat → Nat} : (wR g re rua rla rma rda nr ru rl rm rd).map (fun x => x.1) = [re, rua, rla, rma, rda] := rfl
theorem lz_wR {g : Gx} {re : Nat} {rua : Nat} {rla : Nat} {rma : Nat} {rda : Nat} {nr : Nat} {ru : Nat → Nat} {rl : Nat → Nat} {rm : Nat → Nat} {rd : Nat → Nat} : (wR g re rua rla rma rda nr ru rl rm rd).length = 5 := rfl
theorem ad_wRC {g : Gx} {re : Nat} {rua : Nat} {rla : Nat} {rma : Nat} {rda : Nat} {co : Nat} {ck : Nat} {ch : Nat} {cl : Nat} {nr : Nat} {ru : Nat → Nat} {rl : Nat → Nat} {rm : Nat → Nat} {rd : Nat → Nat} {np : Nat} {sl : Nat} {kd : Nat → Nat} {hg : Nat → Nat} {lk : Nat → Nat} : (wRC g re rua rla rma rda co ck ch cl nr ru rl rm rd np sl kd hg lk).map (fun x => x.1) = [re, rua, rla, rma, rda, co, ck, ch, cl] := rfl
theorem lz_wRC {g : Gx} {re : Nat} {rua : Nat} {rla : Nat} {rma : Nat} {rda : Nat} {co : Nat} {ck : Nat} {ch : Nat} {cl : Nat} {nr : Nat} {ru : Nat → Nat} {rl : Nat → Nat} {rm : Nat → Nat} {rd : Nat → Nat} {np : Nat} {sl : Nat} {kd : Nat → Nat} {hg : Nat → Nat} {lk : Nat → Nat} : (wRC g re rua rla rma rda co ck ch cl nr ru rl rm rd np sl kd hg lk).length = 9 := rfl
theorem ad_wV {g : Gx} {vo : Nat} {vpa : Nat} {vma : Nat} {vn : Nat} {vp : Nat → Int32} {vm : Nat → Int32} : (wV g vo vpa vma vn vp vm).map (fun x => x.1) = [vo, vpa, vma] := rfl
theorem lz_wV {g : Gx} {vo : Nat} {vpa : Nat} {vma : Nat} {vn : Nat} {vp : Nat → Int32} {vm : Nat → Int32} : (wV g vo vpa vma vn vp vm).length = 3 := rfl
theorem ad_wVS {g : Gx} {vo : Nat} {vpa : Nat} {vma : Nat} {sa : Nat} {ca : Nat} {vn : Nat} {vp : Nat → Int32} {vm : Nat → Int32} {la : Int32} {le : Nat} {ce : Nat → Int32} : (wVS g vo vpa vma sa ca vn vp vm la le ce).map (fun x => x.1) = [vo, vpa, vma, sa, ca] := rfl
theorem lz_wVS {g : Gx} {vo : Nat} {vpa : Nat} {vma : Nat} {sa : Nat} {ca : Nat} {vn : Nat} {vp : Nat → Int32} {vm : Nat → Int32} {la : Int32} {le : Nat} {ce : Nat → Int32} : (wVS g vo vpa vma sa ca vn vp vm la le ce).length = 5 := rfl
theorem ad_wVC {g : Gx} {vo : Nat} {vpa : Nat} {vma : Nat} {co : Nat} {ck : Nat} {ch : Nat} {cl : Nat} {vn : Nat} {vp : Nat → Int32} {vm : Nat → Int32} {np : Nat} {sl : Nat} {kd : Nat → Nat} {hg : Nat → Nat} {lk : Nat → Nat} : (wVC g vo vpa vma co ck ch cl vn vp vm np sl kd hg lk).map (fun x => x.1) = [vo, vpa, vma, co, ck, ch, cl] := rfl
theorem lz_wVC {g : Gx} {vo : Nat} {vpa : Nat} {vma : Nat} {co : Nat} {ck : Nat} {ch : Nat} {cl : Nat} {vn : Nat} {vp : Nat → Int32} {vm : Nat → Int32} {np : Nat} {sl : Nat} {kd : Nat → Nat} {hg : Nat → Nat} {lk : Nat → Nat} : (wVC g vo vpa vma co ck ch cl vn vp vm np sl kd hg lk).length = 7 := rfl
theorem nI_fits (f : Nat → Int32) : ∀ i : Nat, fits .int (.int (f i)) = true := fun _ => rfl
section CopyRow
variable {P : Program} {l : Launch} {E : Env} {R : Room} {s : State} {m : MethodId} {args : Array Value} {below : List Frame} {meth : Method} {c : Code} {H : Heap} {locs : List Loc} {cells slots : Nat} {Q : State → Prop}
variable {cc : ByteArray} {pc : Nat} {ls : Array Slot} {rest : List Value} {D : va_G} {cl : List vw_C} {A : Nat → Prop} {a : Nat} {tys : List (ClassId × FieldType)} {ws : va_W} {H0 : Heap}
theorem n_copy (hexec : P.tables.exec = Jvm.exec) (hb : c.code = cc) (hml : c.maxLocals = ls.size) {own : String} {index : Nat} (hown : s.vm.findClass own = some m.cls) (hlink : (Cond.methodLink own index arraycopyName).before args s = true) (hnat : (Cond.native arraycopyName).before args s = true) (hstat : (Cond.static arraycopyName).before args s = true) (hini : (Cond.initialized "java/lang/System").before args s = true)
    (hK : va_K D cl tys s) (hP : va_P D cl ws H) (hD : va_D A ws) (hS : va_S A H0 H locs) (q0 q1 t0 t1 : Nat) {a0 : Nat} {c0 c1 : ClassId} {n0 n1 : Nat} {f g : Nat → Int32} (ha0 : ws[q0]? = some (a0, .inl (c0, n0, .inl f))) (ha1 : ws[q1]? = some (a, .inl (c1, n1, .inl g))) (ht0 : tys[t0]? = some (c0, .int)) (ht1 : tys[t1]? = some (c1, .int)) (hprim : refKind .int = false)
    {sp dp n : Nat} (h4 : sp + n ≤ n0) (h5 : dp + n ≤ n1) (hn0 : n0 < 2 ^ 31) (hn1 : n1 < 2 ^ 31) (hframes : 1 ≤ R.frames) (hlocals : (rest.map fun v => v.category).sum + (nativeFrameWords "java/lang/System" "arraycopy" 5 + 11) ≤ R.locals) {ws1 : va_W} (h1 : ws.set q1 (a, .inl (c1, n1, .inl (va_cpy f g sp dp n))) = ws1) (hdg : decode cc pc = .ok (.invokestatic index, 3))
    (kk : ∀ (H1 : Heap) (locs1 : List Loc), va_P D cl ws1 H1 → va_D A ws1 → va_S A H0 H1 locs1 → W P l E R s m args below meth c H1 locs1 cells slots Q (F0 m (pc + 3) ls rest)) : W P l E R s m args below meth c H locs cells slots Q (F0 m pc ls (.int (nI n) :: .int (nI dp) :: .ref a :: .int (nI sp) :: .ref a0 :: rest)) := by
  have e1 : (nI sp).toNatClampNeg = sp := nI_clamp (by omega)
  have e2 : (nI dp).toNatClampNeg = dp := nI_clamp (by omega)
  have e3 : (nI n).toNatClampNeg = n := nI_clamp (by omega)
  refine va_copyi hexec hb hml hown hlink hnat hstat hini hK hP hD hS q0 q1 t0 t1 ha0 ha1 ht0 ht1 hprim (nI_pos (by omega)) (nI_pos (by omega)) (nI_pos (by omega)) (by rw [e1, e3]; exact h4) (by rw [e2, e3]; exact h5) (fun i _ => rfl) hframes hlocals hdg (fun H1 locs1 hp hd hs => ?_)
  rw [e1, e2, e3, h1] at hp hd
  exact kk H1 locs1 hp hd hs
end CopyRow
set_option maxHeartbeats 4000000 in
set_option maxRecDepth 100000 in
theorem c_fill (l : Launch) (g : Gx) (ca : Nat) (ce : Nat → Int32) (v : Int32) : Met l yJ7_fill_53178 wsJ7_fill_53178 ({ frames := 0, cells := 0, slots := 0, locals := 0 } : Room) (PcM g [.ref ca, .int v] (wA g ca ce)) (va_Qv (fun (uu : Unit) => True) (fun (uu : Unit) t => PP g (wA g ca (filI (fun _ => v) ce 60)) t.heap) (inW (wA g ca ce))) 0 0 (inW (wA g ca ce)) := by
  refine zenterM (cc := cJ7_fill_53178) (maxL := 4) (ret := none) (by decide) rfl (Nat.le_of_ble_eq_true rfl) ?_
  intro P E s mt below meth cd ls hx hb hml hown hts hr hlocks hP hK hD hS hl
  skip
  have hl : lv_has ls 4 [(0, .ref ca), (1, .int v)] := hl
  have S0 : CallFix P mt cd cJ7_fill_53178 4 s [.ref ca, .int v].toArray wsJ7_fill_53178 RJ7 := ⟨hx, hb, hml, hown, hts⟩
  refine lv_iconst (v := (nI 0)) hx hb dJ7_fill_53178_0 (by decide) ?_
  refine lv_istore_n (lv' := [(2, .int (nI 0)), (0, .ref ca), (1, .int v)]) hx hb dJ7_fill_53178_1 rfl hl (by decide) rfl (fun ls hl => ?_)
  refine lv_aload_n hx hb dJ7_fill_53178_2 rfl (lv_at hl 1 rfl) ?_
  refine va_alen (v := nI 60) hx hb hK.1 hP 0 0 rfl rfl rfl dJ7_fill_53178_3 ?_
  refine lv_istore_n (lv' := [(3, .int (nI 60)), (2, .int (nI 0)), (0, .ref ca), (1, .int v)]) hx hb dJ7_fill_53178_4 rfl hl (by decide) rfl (fun ls hl => ?_)
  have lp5 : ∀ (nn : Nat) (i : Nat) (H : Heap) (locs : List Loc) (ls : Array Slot), (60 - i) < nn → (i ≤ 60) → PP g (wA g ca (filI (fun _ => v) ce i)) H → va_D (inW (wA g ca ce)) (wA g ca (filI (fun _ => v) ce i)) → va_S (inW (wA g ca ce)) s.heap H locs → lv_has ls 4 [(0, .ref ca), (1, .int v), (2, .int (nI i)), (3, .int (nI 60))] → W P l E ({ frames := 0, cells := 0, slots := 0, locals := 0 } : Room) s mt [.ref ca, .int v].toArray below meth cd H locs 0 0 (MQ below (va_Qv (fun (uu : Unit) => True) (fun (uu : Unit) t => PP g (wA g ca (filI (fun _ => v) ce 60)) t.heap) (inW (wA g ca ce))) [.ref ca, .int v].toArray s 0 0 (inW (wA g ca ce))) (F0 mt 5 ls []) := by
    intro nn
    induction nn with
    | zero => intro i H locs ls hmu; exact absurd hmu (Nat.not_lt_zero _)
    | succ nn ih5 =>
      intro i H locs ls hmu hi hP hD hS hl
      refine lv_iload_n hx hb dJ7_fill_53178_5 rfl (lv_at hl 2 rfl) ?_
      refine lv_iload_n hx hb dJ7_fill_53178_6 rfl (lv_at hl 3 rfl) ?_
      refine n_icmp_ge (a := i) (b := 60) (tgt := 20) hx hb (by omega) (by omega) dJ7_fill_53178_7 (by decide) (fun c7 => ?_) (fun c7 => ?_)
      · obtain rfl : 60 = i := by omega
        exact zretMV (w1 := fun (uu : Unit) => wA g ca (filI (fun _ => v) ce 60)) () hx hb hr hlocks hS trivial hP dJ7_fill_53178_20
      · refine lv_aload_n hx hb dJ7_fill_53178_10 rfl (lv_at hl 0 rfl) ?_
        refine lv_iload_n hx hb dJ7_fill_53178_11 rfl (lv_at hl 2 rfl) ?_
        refine lv_iload_n hx hb dJ7_fill_53178_12 rfl (lv_at hl 1 rfl) ?_
        refine n_iast (i := i) (x := v) (ws1 := wA g ca (upd (filI (fun _ => v) ce i) i v)) hx hb hK.1 hP hD hS 0 0 rfl rfl (by omega) (by decide) (upd (filI (fun _ => v) ce i) i v) rfl rfl dJ7_fill_53178_13 (fun H locs hP hD hS => ?_)
        refine n_iinc (a := i) (d := 1) (lv' := [(2, .int (nI (i + 1))), (0, .ref ca), (1, .int v), (3, .int (nI 60))]) hx hb dJ7_fill_53178_14 hl (k := 2) rfl (by decide) (by decide) rfl (fun ls hl => ?_)
        refine lv_goto (tgt := 5) hx hb dJ7_fill_53178_17 (by decide) ?_
        rw [filI_up (fun _ => v) ce i] at hP hD
        exact ih5 (i + 1) _ _ ls (by omega) (by omega) hP hD hS (lv_sub hl [1, 2, 0, 3] rfl)
  exact lp5 (60 - 0 + 1) 0 _ _ ls (Nat.lt_succ_self _) (by omega) (by rw [filI_0]; exact hP) (by rw [filI_0]; exact hD) hS (lv_sub hl [2, 3, 1, 0] rfl)

set_option maxHeartbeats 4000000 in
set_option maxRecDepth 100000 in
theorem c_X2_begin (l : Launch) (g : Gx) (sa : Nat) (ca : Nat) (la : Int32) (le : Nat) (ce : Nat → Int32) (nl : Int32) (nn0 : Nat) : Met l yX2_begin wsX2_begin ({ frames := 1, cells := 0, slots := 0, locals := 23 } : Room) (PcM g [.ref sa, .int nl, .int (nI nn0)] (wS g sa ca la le ce)) (va_Qv (fun (uu : Unit) => True) (fun (uu : Unit) t => PP g (wS g sa ca nl nn0 (filI (fun _ => nI 0) ce 60)) t.heap) (inW (wS g sa ca la le ce))) 0 0 (inW (wS g sa ca la le ce)) := by
  refine zenterM (cc := cX2_begin) (maxL := 3) (ret := none) (by decide) rfl (Nat.le_of_ble_eq_true rfl) ?_
  intro P E s mt below meth cd ls hx hb hml hown hts hr hlocks hP hK hD hS hl
  skip
  have hl : lv_has ls 3 [(0, .ref sa), (1, .int nl), (2, .int (nI nn0))] := hl
  have S0 : CallFix P mt cd cX2_begin 3 s [.ref sa, .int nl, .int (nI nn0)].toArray wsX2_begin RX2 := ⟨hx, hb, hml, hown, hts⟩
  refine lv_aload_n hx hb dX2_begin_0 rfl (lv_at hl 0 rfl) ?_
  refine va_get (D := g.1) (ci := 2) (v := .ref ca) (C := RX2) (T := TX2) (N := 3) hx hb hts (fun _ h => (List.mem_cons_of_mem _ (List.mem_append_right _ h))) hown hK.1 hP 0 rfl rfl 0 (by decide) (hts _ (List.mem_of_getElem? (i := 1) rfl)) (fun _ h9 => h9) rfl dX2_begin_1 ?_
  refine lv_iconst (v := (nI 0)) hx hb dX2_begin_4 (by decide) ?_
  refine zcallMv (w := wA g ca ce) (va_runS (As := [.ref ca, .int (nI 0)]) (rest := []) S0 (c_fill l g ca ce (nI 0)) (va_cwS 2 hts gX2_begin_J7_fill_53178 rfl rfl rfl (by decide +kernel) ⟨by decide, by decide⟩) (zpreSM hK hP hD [1] rfl (by decide)) rfl rfl hl.1 rfl (lv_room (Nat.le_of_ble_eq_true rfl)) dX2_begin_5 ⟨by decide, by decide⟩) hP hD hS [1] rfl (fun uu5 => wS g sa ca la le (filI (fun _ => (nI 0)) ce 60)) (fun _ => lz_wA.trans lz_wA.symm) (fun _ => rfl) (fun _ => ad_wS.trans ad_wS.symm) (fun uu5 H locs h5 hP hD hS => ?_)
  refine lv_aload_n hx hb dX2_begin_8 rfl (lv_at hl 0 rfl) ?_
  refine lv_iload_n hx hb dX2_begin_9 rfl (lv_at hl 1 rfl) ?_
  refine n_put (D := g.1) (ci := 2) (v := .int nl) (ty := .int) (C := RX2) (T := TX2) (N := 3) (ws1 := wS g sa ca nl le (filI (fun _ => (nI 0)) ce 60)) hx hb hts (fun _ h => (List.mem_cons_of_mem _ (List.mem_append_right _ h))) tyX2 tyX2_ok nmX2 hown hK.1 hP hD hS 0 rfl rfl 1 (by decide) (hts _ (List.mem_of_getElem? (i := 2) rfl)) (fun _ h9 => h9) rfl (by decide +kernel) rfl rfl (Nat.le_of_ble_eq_true rfl) rfl dX2_begin_10 (fun H locs hP hD hS => ?_)
  refine lv_aload_n hx hb dX2_begin_13 rfl (lv_at hl 0 rfl) ?_
  refine lv_iload_n hx hb dX2_begin_14 rfl (lv_at hl 2 rfl) ?_
  refine n_put (D := g.1) (ci := 2) (v := .int (nI nn0)) (ty := .int) (C := RX2) (T := TX2) (N := 3) (ws1 := wS g sa ca nl nn0 (filI (fun _ => (nI 0)) ce 60)) hx hb hts (fun _ h => (List.mem_cons_of_mem _ (List.mem_append_right _ h))) tyX2 tyX2_ok nmX2 hown hK.1 hP hD hS 0 rfl rfl 2 (by decide) (hts _ (List.mem_of_getElem? (i := 3) rfl)) (fun _ h9 => h9) rfl (by decide +kernel) rfl rfl (Nat.le_of_ble_eq_true rfl) rfl dX2_begin_15 (fun H locs hP hD hS => ?_)
  exact zretMV (w1 := fun (uu : Unit) => wS g sa ca nl nn0 (filI (fun _ => nI 0) ce 60)) () hx hb hr hlocks hS trivial hP dX2_begin_18

set_option maxHeartbeats 4000000 in
set_option maxRecDepth 100000 in
theorem c_X2_drop (l : Launch) (g : Gx) (sa : Nat) (ca : Nat) (la : Int32) (le : Nat) (ce : Nat → Int32) : Met l yX2_drop wsX2_drop ({ frames := 0, cells := 0, slots := 0, locals := 0 } : Room) (PcM g [.ref sa] (wS g sa ca la le ce)) (va_Qv (fun (uu : Unit) => True) (fun (uu : Unit) t => PP g (wS g sa ca (-1) 0 ce) t.heap) (inW (wS g sa ca la le ce))) 0 0 (inW (wS g sa ca la le ce)) := by
  refine zenterM (cc := cX2_drop) (maxL := 1) (ret := none) (by decide) rfl (Nat.le_of_ble_eq_true rfl) ?_
  intro P E s mt below meth cd ls hx hb hml hown hts hr hlocks hP hK hD hS hl
  skip
  have hl : lv_has ls 1 [(0, .ref sa)] := hl
  have S0 : CallFix P mt cd cX2_drop 1 s [.ref sa].toArray wsX2_drop RX2 := ⟨hx, hb, hml, hown, hts⟩
  refine lv_aload_n hx hb dX2_drop_0 rfl (lv_at hl 0 rfl) ?_
  refine lv_iconst (v := (-1)) hx hb dX2_drop_1 (by decide) ?_
  refine n_put (D := g.1) (ci := 2) (v := .int (-1)) (ty := .int) (C := RX2) (T := TX2) (N := 3) (ws1 := wS g sa ca (-1) le ce) hx hb hts (fun _ h => (List.mem_cons_of_mem _ (List.mem_append_right _ h))) tyX2 tyX2_ok nmX2 hown hK.1 hP hD hS 0 rfl rfl 1 (by decide) (hts _ (List.mem_of_getElem? (i := 1) rfl)) (fun _ h9 => h9) rfl (by decide +kernel) rfl rfl (Nat.le_of_ble_eq_true rfl) rfl dX2_drop_2 (fun H locs hP hD hS => ?_)
  refine lv_aload_n hx hb dX2_drop_5 rfl (lv_at hl 0 rfl) ?_
  refine lv_iconst (v := (nI 0)) hx hb dX2_drop_6 (by decide) ?_
  refine n_put (D := g.1) (ci := 2) (v := .int (nI 0)) (ty := .int) (C := RX2) (T := TX2) (N := 3) (ws1 := wS g sa ca (-1) 0 ce) hx hb hts (fun _ h => (List.mem_cons_of_mem _ (List.mem_append_right _ h))) tyX2 tyX2_ok nmX2 hown hK.1 hP hD hS 0 rfl rfl 2 (by decide) (hts _ (List.mem_of_getElem? (i := 2) rfl)) (fun _ h9 => h9) rfl (by decide +kernel) rfl rfl (Nat.le_of_ble_eq_true rfl) rfl dX2_drop_7 (fun H locs hP hD hS => ?_)
  exact zretMV (w1 := fun (uu : Unit) => wS g sa ca (-1) 0 ce) () hx hb hr hlocks hS trivial hP dX2_drop_10

set_option maxHeartbeats 4000000 in
set_option maxRecDepth 100000 in
theorem c_X2_hasNothing (l : Launch) (g : Gx) (sa : Nat) (ca : Nat) (la : Int32) (le : Nat) (ce : Nat → Int32) : Met l yX2_hasNothing wsX2_hasNothing ({ frames := 0, cells := 0, slots := 0, locals := 0 } : Room) (PcR g [.ref sa] (wS g sa ca la le ce)) (vp_Si (fun r => r = nI (b01 (la = -1)))) 0 0 (fun _ => False) := by
  refine zenterR (cc := cX2_hasNothing) (maxL := 1) (ret := (some .boolean)) (by decide) rfl (Nat.le_of_ble_eq_true rfl) ?_
  intro P E s mt below meth cd ls hx hb hml hown hts hr hlocks hP hK hl
  have hl : lv_has ls 1 [(0, .ref sa)] := hl
  have S0 : CallFix P mt cd cX2_hasNothing 1 s [.ref sa].toArray wsX2_hasNothing RX2 := ⟨hx, hb, hml, hown, hts⟩
  refine lv_aload_n hx hb dX2_hasNothing_0 rfl (lv_at hl 0 rfl) ?_
  refine va_get (D := g.1) (ci := 2) (v := .int la) (C := RX2) (T := TX2) (N := 3) hx hb hts (fun _ h => (List.mem_cons_of_mem _ (List.mem_append_right _ h))) hown hK.1 hP 0 rfl rfl 1 (by decide) (hts _ (List.mem_of_getElem? (i := 1) rfl)) (fun _ h9 => h9) rfl dX2_hasNothing_1 ?_
  refine lv_iconst (v := (-1)) hx hb dX2_hasNothing_4 (by decide) ?_
  refine lv_icmp_ne (tgt := 12) hx hb dX2_hasNothing_5 (by decide) (fun c5 => ?_) (fun c5 => ?_)
  · refine lv_iconst (v := (nI 0)) hx hb dX2_hasNothing_12 (by decide) ?_
    exact zretI hx hb hr hlocks rfl (by rw [b01_f c5]) dX2_hasNothing_13
  · refine lv_iconst (v := (nI 1)) hx hb dX2_hasNothing_8 (by decide) ?_
    refine lv_goto (tgt := 13) hx hb dX2_hasNothing_9 (by decide) ?_
    exact zretI hx hb hr hlocks rfl (by rw [b01_t c5]) dX2_hasNothing_13

set_option maxHeartbeats 4000000 in
set_option maxRecDepth 100000 in
theorem c_X2_laneNow (l : Launch) (g : Gx) (sa : Nat) (ca : Nat) (la : Int32) (le : Nat) (ce : Nat → Int32) : Met l yX2_laneNow wsX2_laneNow ({ frames := 0, cells := 0, slots := 0, locals := 0 } : Room) (PcR g [.ref sa] (wS g sa ca la le ce)) (vp_Si (fun r => r = la)) 0 0 (fun _ => False) := by
  refine zenterR (cc := cX2_laneNow) (maxL := 1) (ret := (some .int)) (by decide) rfl (Nat.le_of_ble_eq_true rfl) ?_
  intro P E s mt below meth cd ls hx hb hml hown hts hr hlocks hP hK hl
  have hl : lv_has ls 1 [(0, .ref sa)] := hl
  have S0 : CallFix P mt cd cX2_laneNow 1 s [.ref sa].toArray wsX2_laneNow RX2 := ⟨hx, hb, hml, hown, hts⟩
  refine lv_aload_n hx hb dX2_laneNow_0 rfl (lv_at hl 0 rfl) ?_
  refine va_get (D := g.1) (ci := 2) (v := .int la) (C := RX2) (T := TX2) (N := 3) hx hb hts (fun _ h => (List.mem_cons_of_mem _ (List.mem_append_right _ h))) hown hK.1 hP 0 rfl rfl 1 (by decide) (hts _ (List.mem_of_getElem? (i := 1) rfl)) (fun _ h9 => h9) rfl dX2_laneNow_1 ?_
  exact zretI hx hb hr hlocks rfl (by rfl) dX2_laneNow_4

set_option maxHeartbeats 4000000 in
set_option maxRecDepth 100000 in
theorem c_X2_isOfAnother (l : Launch) (g : Gx) (sa : Nat) (ca : Nat) (la : Int32) (le : Nat) (ce : Nat → Int32) (asked : Int32) : Met l yX2_isOfAnother wsX2_isOfAnother ({ frames := 0, cells := 0, slots := 0, locals := 0 } : Room) (PcR g [.ref sa, .int asked] (wS g sa ca la le ce)) (vp_Si (fun r => r = nI (b01 (la ≠ asked)))) 0 0 (fun _ => False) := by
  refine zenterR (cc := cX2_isOfAnother) (maxL := 2) (ret := (some .boolean)) (by decide) rfl (Nat.le_of_ble_eq_true rfl) ?_
  intro P E s mt below meth cd ls hx hb hml hown hts hr hlocks hP hK hl
  have hl : lv_has ls 2 [(0, .ref sa), (1, .int asked)] := hl
  have S0 : CallFix P mt cd cX2_isOfAnother 2 s [.ref sa, .int asked].toArray wsX2_isOfAnother RX2 := ⟨hx, hb, hml, hown, hts⟩
  refine lv_aload_n hx hb dX2_isOfAnother_0 rfl (lv_at hl 0 rfl) ?_
  refine va_get (D := g.1) (ci := 2) (v := .int la) (C := RX2) (T := TX2) (N := 3) hx hb hts (fun _ h => (List.mem_cons_of_mem _ (List.mem_append_right _ h))) hown hK.1 hP 0 rfl rfl 1 (by decide) (hts _ (List.mem_of_getElem? (i := 1) rfl)) (fun _ h9 => h9) rfl dX2_isOfAnother_1 ?_
  refine lv_iload_n hx hb dX2_isOfAnother_4 rfl (lv_at hl 1 rfl) ?_
  refine lv_icmp_eq (tgt := 12) hx hb dX2_isOfAnother_5 (by decide) (fun c5 => ?_) (fun c5 => ?_)
  · refine lv_iconst (v := (nI 0)) hx hb dX2_isOfAnother_12 (by decide) ?_
    exact zretI hx hb hr hlocks rfl (by rw [b01_f (fun z => z c5)]) dX2_isOfAnother_13
  · refine lv_iconst (v := (nI 1)) hx hb dX2_isOfAnother_8 (by decide) ?_
    refine lv_goto (tgt := 13) hx hb dX2_isOfAnother_9 (by decide) ?_
    exact zretI hx hb hr hlocks rfl (by rw [b01_t c5]) dX2_isOfAnother_13

set_option maxHeartbeats 4000000 in
set_option maxRecDepth 100000 in
theorem c_X2_hasCell (l : Launch) (g : Gx) (sa : Nat) (ca : Nat) (la : Int32) (le : Nat) (ce : Nat → Int32) (i : Int32) (hle : le ≤ 60) : Met l yX2_hasCell wsX2_hasCell ({ frames := 0, cells := 0, slots := 0, locals := 0 } : Room) (PcR g [.ref sa, .int i] (wS g sa ca la le ce)) (vp_Si (fun r => (∃ w, w < le ∧ i = nI w ∧ r = nI 1) ∨ (¬ isP le i ∧ r = nI 0))) 0 0 (fun _ => False) := by
  refine zenterR (cc := cX2_hasCell) (maxL := 2) (ret := (some .boolean)) (by decide) rfl (Nat.le_of_ble_eq_true rfl) ?_
  intro P E s mt below meth cd ls hx hb hml hown hts hr hlocks hP hK hl
  have hl : lv_has ls 2 [(0, .ref sa), (1, .int i)] := hl
  have S0 : CallFix P mt cd cX2_hasCell 2 s [.ref sa, .int i].toArray wsX2_hasCell RX2 := ⟨hx, hb, hml, hown, hts⟩
  refine lv_iload_n hx hb dX2_hasCell_0 rfl (lv_at hl 1 rfl) ?_
  refine lv_if_lt (tgt := 16) hx hb dX2_hasCell_1 (by decide) (fun c1 => ?_) (fun c1 => ?_)
  · refine lv_iconst (v := (nI 0)) hx hb dX2_hasCell_16 (by decide) ?_
    exact zretI hx hb hr hlocks rfl (Or.inr ⟨fun z => z.1 c1, rfl⟩) dX2_hasCell_17
  · refine lv_iload_n hx hb dX2_hasCell_4 rfl (lv_at hl 1 rfl) ?_
    refine lv_aload_n hx hb dX2_hasCell_5 rfl (lv_at hl 0 rfl) ?_
    refine va_get (D := g.1) (ci := 2) (v := .int (nI le)) (C := RX2) (T := TX2) (N := 3) hx hb hts (fun _ h => (List.mem_cons_of_mem _ (List.mem_append_right _ h))) hown hK.1 hP 0 rfl rfl 2 (by decide) (hts _ (List.mem_of_getElem? (i := 1) rfl)) (fun _ h9 => h9) rfl dX2_hasCell_6 ?_
    refine lv_icmp_ge (tgt := 16) hx hb dX2_hasCell_9 (by decide) (fun c9 => ?_) (fun c9 => ?_)
    · refine lv_iconst (v := (nI 0)) hx hb dX2_hasCell_16 (by decide) ?_
      exact zretI hx hb hr hlocks rfl (Or.inr ⟨fun z => absurd z.2 (i_nlt.mpr c9), rfl⟩) dX2_hasCell_17
    · refine lv_iconst (v := (nI 1)) hx hb dX2_hasCell_12 (by decide) ?_
      refine lv_goto (tgt := 17) hx hb dX2_hasCell_13 (by decide) ?_
      exact zretI hx hb hr hlocks rfl (by obtain ⟨u, h1, h2⟩ := nI_btl (n := le) (by omega) c1 (i_nle.mp c9); exact Or.inl ⟨u, h1, h2, rfl⟩) dX2_hasCell_17

set_option maxHeartbeats 4000000 in
set_option maxRecDepth 100000 in
theorem c_X2_hasCell_in (l : Launch) (g : Gx) (sa : Nat) (ca : Nat) (la : Int32) (le : Nat) (ce : Nat → Int32) (w : Nat) (hle : le ≤ 60) (hw : w < le) : Met l yX2_hasCell wsX2_hasCell ({ frames := 0, cells := 0, slots := 0, locals := 0 } : Room) (PcR g [.ref sa, .int (nI w)] (wS g sa ca la le ce)) (vp_Si (fun r => r = nI 1)) 0 0 (fun _ => False) := by
  refine zenterR (cc := cX2_hasCell) (maxL := 2) (ret := (some .boolean)) (by decide) rfl (Nat.le_of_ble_eq_true rfl) ?_
  intro P E s mt below meth cd ls hx hb hml hown hts hr hlocks hP hK hl
  have hl : lv_has ls 2 [(0, .ref sa), (1, .int (nI w))] := hl
  have S0 : CallFix P mt cd cX2_hasCell 2 s [.ref sa, .int (nI w)].toArray wsX2_hasCell RX2 := ⟨hx, hb, hml, hown, hts⟩
  refine lv_iload_n hx hb dX2_hasCell_0 rfl (lv_at hl 1 rfl) ?_
  refine n_if_lt (a := w) hx hb (by omega) dX2_hasCell_1 16 (by decide) ?_
  refine lv_iload_n hx hb dX2_hasCell_4 rfl (lv_at hl 1 rfl) ?_
  refine lv_aload_n hx hb dX2_hasCell_5 rfl (lv_at hl 0 rfl) ?_
  refine va_get (D := g.1) (ci := 2) (v := .int (nI le)) (C := RX2) (T := TX2) (N := 3) hx hb hts (fun _ h => (List.mem_cons_of_mem _ (List.mem_append_right _ h))) hown hK.1 hP 0 rfl rfl 2 (by decide) (hts _ (List.mem_of_getElem? (i := 1) rfl)) (fun _ h9 => h9) rfl dX2_hasCell_6 ?_
  refine n_icmp_ge (a := w) (b := le) (tgt := 16) hx hb (by omega) (by omega) dX2_hasCell_9 (by decide) (fun c9 => ?_) (fun c9 => ?_)
  · exact absurd hw (by omega)
  · refine lv_iconst (v := (nI 1)) hx hb dX2_hasCell_12 (by decide) ?_
    refine lv_goto (tgt := 17) hx hb dX2_hasCell_13 (by decide) ?_
    exact zretI hx hb hr hlocks rfl (by rfl) dX2_hasCell_17

set_option maxHeartbeats 4000000 in
set_option maxRecDepth 100000 in
theorem c_X2_hasCells (l : Launch) (g : Gx) (sa : Nat) (ca : Nat) (la : Int32) (le : Nat) (ce : Nat → Int32) (i : Int32) (n : Int32) (hle : le ≤ 60) : Met l yX2_hasCells wsX2_hasCells ({ frames := 0, cells := 0, slots := 0, locals := 0 } : Room) (PcR g [.ref sa, .int i, .int n] (wS g sa ca la le ce)) (vp_Si (fun r => (∃ a b, i = nI a ∧ n = nI b ∧ a + b ≤ le ∧ r = nI 1) ∨ (¬ isC le i n ∧ r = nI 0))) 0 0 (fun _ => False) := by
  refine zenterR (cc := cX2_hasCells) (maxL := 3) (ret := (some .boolean)) (by decide) rfl (Nat.le_of_ble_eq_true rfl) ?_
  intro P E s mt below meth cd ls hx hb hml hown hts hr hlocks hP hK hl
  have hl : lv_has ls 3 [(0, .ref sa), (1, .int i), (2, .int n)] := hl
  have S0 : CallFix P mt cd cX2_hasCells 3 s [.ref sa, .int i, .int n].toArray wsX2_hasCells RX2 := ⟨hx, hb, hml, hown, hts⟩
  refine lv_iload_n hx hb dX2_hasCells_0 rfl (lv_at hl 1 rfl) ?_
  refine lv_if_lt (tgt := 30) hx hb dX2_hasCells_1 (by decide) (fun c1 => ?_) (fun c1 => ?_)
  · refine lv_iconst (v := (nI 0)) hx hb dX2_hasCells_30 (by decide) ?_
    exact zretI hx hb hr hlocks rfl (Or.inr ⟨hC_1 hle c1, rfl⟩) dX2_hasCells_31
  · refine lv_iload_n hx hb dX2_hasCells_4 rfl (lv_at hl 1 rfl) ?_
    refine lv_aload_n hx hb dX2_hasCells_5 rfl (lv_at hl 0 rfl) ?_
    refine va_get (D := g.1) (ci := 2) (v := .int (nI le)) (C := RX2) (T := TX2) (N := 3) hx hb hts (fun _ h => (List.mem_cons_of_mem _ (List.mem_append_right _ h))) hown hK.1 hP 0 rfl rfl 2 (by decide) (hts _ (List.mem_of_getElem? (i := 1) rfl)) (fun _ h9 => h9) rfl dX2_hasCells_6 ?_
    refine lv_icmp_gt (tgt := 30) hx hb dX2_hasCells_9 (by decide) (fun c9 => ?_) (fun c9 => ?_)
    · refine lv_iconst (v := (nI 0)) hx hb dX2_hasCells_30 (by decide) ?_
      exact zretI hx hb hr hlocks rfl (Or.inr ⟨hC_2 hle c9, rfl⟩) dX2_hasCells_31
    · refine lv_iload_n hx hb dX2_hasCells_12 rfl (lv_at hl 2 rfl) ?_
      refine lv_if_lt (tgt := 30) hx hb dX2_hasCells_13 (by decide) (fun c13 => ?_) (fun c13 => ?_)
      · refine lv_iconst (v := (nI 0)) hx hb dX2_hasCells_30 (by decide) ?_
        exact zretI hx hb hr hlocks rfl (Or.inr ⟨hC_3 hle c13, rfl⟩) dX2_hasCells_31
      · refine lv_iload_n hx hb dX2_hasCells_16 rfl (lv_at hl 2 rfl) ?_
        refine lv_aload_n hx hb dX2_hasCells_17 rfl (lv_at hl 0 rfl) ?_
        refine va_get (D := g.1) (ci := 2) (v := .int (nI le)) (C := RX2) (T := TX2) (N := 3) hx hb hts (fun _ h => (List.mem_cons_of_mem _ (List.mem_append_right _ h))) hown hK.1 hP 0 rfl rfl 2 (by decide) (hts _ (List.mem_of_getElem? (i := 1) rfl)) (fun _ h9 => h9) rfl dX2_hasCells_18 ?_
        refine lv_iload_n hx hb dX2_hasCells_21 rfl (lv_at hl 1 rfl) ?_
        refine lv_isub hx hb dX2_hasCells_22 ?_
        refine lv_icmp_gt (tgt := 30) hx hb dX2_hasCells_23 (by decide) (fun c23 => ?_) (fun c23 => ?_)
        · refine lv_iconst (v := (nI 0)) hx hb dX2_hasCells_30 (by decide) ?_
          exact zretI hx hb hr hlocks rfl (Or.inr ⟨hC_4 hle c23, rfl⟩) dX2_hasCells_31
        · refine lv_iconst (v := (nI 1)) hx hb dX2_hasCells_26 (by decide) ?_
          refine lv_goto (tgt := 31) hx hb dX2_hasCells_27 (by decide) ?_
          exact zretI hx hb hr hlocks rfl (by obtain ⟨a, b, h1, h2, h3⟩ := hC_yes hle c1 c9 c13 c23; exact Or.inl ⟨a, b, h1, h2, h3, rfl⟩) dX2_hasCells_31

set_option maxHeartbeats 4000000 in
set_option maxRecDepth 100000 in
theorem c_X2_hasCells_in (l : Launch) (g : Gx) (sa : Nat) (ca : Nat) (la : Int32) (le : Nat) (ce : Nat → Int32) (a : Nat) (b : Nat) (hle : le ≤ 60) (hab : a + b ≤ le) : Met l yX2_hasCells wsX2_hasCells ({ frames := 0, cells := 0, slots := 0, locals := 0 } : Room) (PcR g [.ref sa, .int (nI a), .int (nI b)] (wS g sa ca la le ce)) (vp_Si (fun r => r = nI 1)) 0 0 (fun _ => False) := by
  refine zenterR (cc := cX2_hasCells) (maxL := 3) (ret := (some .boolean)) (by decide) rfl (Nat.le_of_ble_eq_true rfl) ?_
  intro P E s mt below meth cd ls hx hb hml hown hts hr hlocks hP hK hl
  have hl : lv_has ls 3 [(0, .ref sa), (1, .int (nI a)), (2, .int (nI b))] := hl
  have S0 : CallFix P mt cd cX2_hasCells 3 s [.ref sa, .int (nI a), .int (nI b)].toArray wsX2_hasCells RX2 := ⟨hx, hb, hml, hown, hts⟩
  refine lv_iload_n hx hb dX2_hasCells_0 rfl (lv_at hl 1 rfl) ?_
  refine n_if_lt (a := a) hx hb (by omega) dX2_hasCells_1 30 (by decide) ?_
  refine lv_iload_n hx hb dX2_hasCells_4 rfl (lv_at hl 1 rfl) ?_
  refine lv_aload_n hx hb dX2_hasCells_5 rfl (lv_at hl 0 rfl) ?_
  refine va_get (D := g.1) (ci := 2) (v := .int (nI le)) (C := RX2) (T := TX2) (N := 3) hx hb hts (fun _ h => (List.mem_cons_of_mem _ (List.mem_append_right _ h))) hown hK.1 hP 0 rfl rfl 2 (by decide) (hts _ (List.mem_of_getElem? (i := 1) rfl)) (fun _ h9 => h9) rfl dX2_hasCells_6 ?_
  refine n_icmp_gt (a := a) (b := le) (tgt := 30) hx hb (by omega) (by omega) dX2_hasCells_9 (by decide) (fun c9 => ?_) (fun c9 => ?_)
  · exact absurd hab (by omega)
  · refine lv_iload_n hx hb dX2_hasCells_12 rfl (lv_at hl 2 rfl) ?_
    refine n_if_lt (a := b) hx hb (by omega) dX2_hasCells_13 30 (by decide) ?_
    refine lv_iload_n hx hb dX2_hasCells_16 rfl (lv_at hl 2 rfl) ?_
    refine lv_aload_n hx hb dX2_hasCells_17 rfl (lv_at hl 0 rfl) ?_
    refine va_get (D := g.1) (ci := 2) (v := .int (nI le)) (C := RX2) (T := TX2) (N := 3) hx hb hts (fun _ h => (List.mem_cons_of_mem _ (List.mem_append_right _ h))) hown hK.1 hP 0 rfl rfl 2 (by decide) (hts _ (List.mem_of_getElem? (i := 1) rfl)) (fun _ h9 => h9) rfl dX2_hasCells_18 ?_
    refine lv_iload_n hx hb dX2_hasCells_21 rfl (lv_at hl 1 rfl) ?_
    refine n_isub (a := le) (b := a) hx hb (by omega) dX2_hasCells_22 ?_
    refine n_icmp_gt (a := b) (b := (le - a)) (tgt := 30) hx hb (by omega) (by omega) dX2_hasCells_23 (by decide) (fun c23 => ?_) (fun c23 => ?_)
    · exact absurd hab (by omega)
    · refine lv_iconst (v := (nI 1)) hx hb dX2_hasCells_26 (by decide) ?_
      refine lv_goto (tgt := 31) hx hb dX2_hasCells_27 (by decide) ?_
      exact zretI hx hb hr hlocks rfl (by rfl) dX2_hasCells_31

set_option maxHeartbeats 4000000 in
set_option maxRecDepth 100000 in
theorem c_X2_at (l : Launch) (g : Gx) (sa : Nat) (ca : Nat) (la : Int32) (le : Nat) (ce : Nat → Int32) (w : Nat) (hle : le ≤ 60) (hw : w < le) : Met l yX2_at wsX2_at ({ frames := 1, cells := 0, slots := 0, locals := 21 } : Room) (PcR g [.ref sa, .int (nI w)] (wS g sa ca la le ce)) (vp_Si (fun r => r = ce w)) 0 0 (fun _ => False) := by
  refine zenterR (cc := cX2_at) (maxL := 2) (ret := (some .int)) (by decide) rfl (Nat.le_of_ble_eq_true rfl) ?_
  intro P E s mt below meth cd ls hx hb hml hown hts hr hlocks hP hK hl
  have hl : lv_has ls 2 [(0, .ref sa), (1, .int (nI w))] := hl
  have S0 : CallFix P mt cd cX2_at 2 s [.ref sa, .int (nI w)].toArray wsX2_at RX2 := ⟨hx, hb, hml, hown, hts⟩
  refine lv_aload_n hx hb dX2_at_0 rfl (lv_at hl 0 rfl) ?_
  refine lv_iload_n hx hb dX2_at_1 rfl (lv_at hl 1 rfl) ?_
  have hPc : PP g (wS g sa ca la le ce) _ := hP
  refine zcallR (va_runV (As := [.int (nI w)]) (rest := []) (b := sa) S0 (c_X2_hasCell_in l g sa ca la le ce w (by omega) (by omega)) (cwV 1 hts gX2_at_X2_hasCell rfl rfl rfl (by decide +kernel) ⟨by decide, by decide⟩) (zpreV hK hPc (va_recv hK.1 hPc (ci := 2) (q0 := 0) rfl rfl)) rfl rfl hl.1 rfl (lv_room (Nat.le_of_ble_eq_true rfl)) dX2_at_2 ⟨by decide, by decide⟩) (fun r2 h2 => ?_)
  subst h2
  refine lv_if_eq (tgt := 17) hx hb dX2_at_5 (by decide) (fun c5 => ?_) (fun c5 => ?_)
  · exact absurd c5 (by decide)
  refine lv_aload_n hx hb dX2_at_8 rfl (lv_at hl 0 rfl) ?_
  refine va_get (D := g.1) (ci := 2) (v := .ref ca) (C := RX2) (T := TX2) (N := 3) hx hb hts (fun _ h => (List.mem_cons_of_mem _ (List.mem_append_right _ h))) hown hK.1 hP 0 rfl rfl 0 (by decide) (hts _ (List.mem_of_getElem? (i := 1) rfl)) (fun _ h9 => h9) rfl dX2_at_9 ?_
  refine lv_iload_n hx hb dX2_at_12 rfl (lv_at hl 1 rfl) ?_
  refine n_iald (i := w) (v := (ce w)) hx hb hK.1 hP 1 0 rfl rfl (by omega) (by decide) rfl dX2_at_13 ?_
  refine lv_goto (tgt := 18) hx hb dX2_at_14 (by decide) ?_
  exact zretI hx hb hr hlocks rfl (by rfl) dX2_at_18

set_option maxHeartbeats 4000000 in
set_option maxRecDepth 100000 in
theorem c_X2_cut (l : Launch) (g : Gx) (sa : Nat) (ca : Nat) (la : Int32) (le : Nat) (ce : Nat → Int32) (v : Int32) : Met l yX2_cut wsX2_cut ({ frames := 0, cells := 0, slots := 0, locals := 0 } : Room) (PcR g [.ref sa, .int v] (wS g sa ca la le ce)) (vp_Si (fun r => r = cutI la v)) 0 0 (fun _ => False) := by
  refine zenterR (cc := cX2_cut) (maxL := 2) (ret := (some .int)) (by decide) rfl (Nat.le_of_ble_eq_true rfl) ?_
  intro P E s mt below meth cd ls hx hb hml hown hts hr hlocks hP hK hl
  have hl : lv_has ls 2 [(0, .ref sa), (1, .int v)] := hl
  have S0 : CallFix P mt cd cX2_cut 2 s [.ref sa, .int v].toArray wsX2_cut RX2 := ⟨hx, hb, hml, hown, hts⟩
  refine lv_aload_n hx hb dX2_cut_0 rfl (lv_at hl 0 rfl) ?_
  refine va_get (D := g.1) (ci := 2) (v := .int la) (C := RX2) (T := TX2) (N := 3) hx hb hts (fun _ h => (List.mem_cons_of_mem _ (List.mem_append_right _ h))) hown hK.1 hP 0 rfl rfl 1 (by decide) (hts _ (List.mem_of_getElem? (i := 1) rfl)) (fun _ h9 => h9) rfl dX2_cut_1 ?_
  by_cases c4_0 : la = nI 0
  · refine ztopI (nI 0) c4_0 ?_
    refine lv_lookup (off := 28) (tgt := 32) hx hb dX2_cut_4 (by decide) (by decide) (by decide) ?_
    refine lv_iload_n hx hb dX2_cut_32 rfl (lv_at hl 1 rfl) ?_
    refine lv_i2b (v := v.toInt8.toInt32) hx hb dX2_cut_33 rfl ?_
    exact zretI hx hb hr hlocks rfl (by rw [cutI, if_pos c4_0]) dX2_cut_34
  by_cases c4_1 : la = nI 1
  · refine ztopI (nI 1) c4_1 ?_
    refine lv_lookup (off := 31) (tgt := 35) hx hb dX2_cut_4 (by decide) (by decide) (by decide) ?_
    refine lv_iload_n hx hb dX2_cut_35 rfl (lv_at hl 1 rfl) ?_
    refine lv_i2s (v := v.toInt16.toInt32) hx hb dX2_cut_36 rfl ?_
    exact zretI hx hb hr hlocks rfl (by rw [cutI, if_neg c4_0, if_pos c4_1]) dX2_cut_37
  refine lv_lookup (off := 34) (tgt := 38) hx hb dX2_cut_4 (by decide) (by rw [lv_osw (k := nI 0) c4_0 (by decide)]; rw [lv_osw (k := nI 1) c4_1 (by decide)]; rfl) (by decide) ?_
  refine lv_iload_n hx hb dX2_cut_38 rfl (lv_at hl 1 rfl) ?_
  exact zretI hx hb hr hlocks rfl (by rw [cutI, if_neg c4_0, if_neg c4_1]) dX2_cut_39

set_option maxHeartbeats 4000000 in
set_option maxRecDepth 100000 in
theorem c_X2_write (l : Launch) (g : Gx) (sa : Nat) (ca : Nat) (la : Int32) (le : Nat) (ce : Nat → Int32) (w : Nat) (v : Int32) (hle : le ≤ 60) (hw : w < le) : Met l yX2_write wsX2_write ({ frames := 1, cells := 0, slots := 0, locals := 21 } : Room) (PcM g [.ref sa, .int (nI w), .int v] (wS g sa ca la le ce)) (va_Qv (fun (uu : Unit) => True) (fun (uu : Unit) t => PP g (wS g sa ca la le (upd ce w (cutI la v))) t.heap) (inW (wS g sa ca la le ce))) 0 0 (inW (wS g sa ca la le ce)) := by
  refine zenterM (cc := cX2_write) (maxL := 3) (ret := none) (by decide) rfl (Nat.le_of_ble_eq_true rfl) ?_
  intro P E s mt below meth cd ls hx hb hml hown hts hr hlocks hP hK hD hS hl
  skip
  have hl : lv_has ls 3 [(0, .ref sa), (1, .int (nI w)), (2, .int v)] := hl
  have S0 : CallFix P mt cd cX2_write 3 s [.ref sa, .int (nI w), .int v].toArray wsX2_write RX2 := ⟨hx, hb, hml, hown, hts⟩
  refine lv_aload_n hx hb dX2_write_0 rfl (lv_at hl 0 rfl) ?_
  refine lv_iload_n hx hb dX2_write_1 rfl (lv_at hl 1 rfl) ?_
  have hPc : PP g (wS g sa ca la le ce) _ := hP
  refine zcallR (va_runV (As := [.int (nI w)]) (rest := []) (b := sa) S0 (c_X2_hasCell_in l g sa ca la le ce w (by omega) (by omega)) (cwV 1 hts gX2_write_X2_hasCell rfl rfl rfl (by decide +kernel) ⟨by decide, by decide⟩) (zpreV hK hPc (va_recv hK.1 hPc (ci := 2) (q0 := 0) rfl rfl)) rfl rfl hl.1 rfl (lv_room (Nat.le_of_ble_eq_true rfl)) dX2_write_2 ⟨by decide, by decide⟩) (fun r2 h2 => ?_)
  subst h2
  refine lv_if_eq (tgt := 19) hx hb dX2_write_5 (by decide) (fun c5 => ?_) (fun c5 => ?_)
  · exact absurd c5 (by decide)
  refine lv_aload_n hx hb dX2_write_8 rfl (lv_at hl 0 rfl) ?_
  refine va_get (D := g.1) (ci := 2) (v := .ref ca) (C := RX2) (T := TX2) (N := 3) hx hb hts (fun _ h => (List.mem_cons_of_mem _ (List.mem_append_right _ h))) hown hK.1 hP 0 rfl rfl 0 (by decide) (hts _ (List.mem_of_getElem? (i := 1) rfl)) (fun _ h9 => h9) rfl dX2_write_9 ?_
  refine lv_iload_n hx hb dX2_write_12 rfl (lv_at hl 1 rfl) ?_
  refine lv_aload_n hx hb dX2_write_13 rfl (lv_at hl 0 rfl) ?_
  refine lv_iload_n hx hb dX2_write_14 rfl (lv_at hl 2 rfl) ?_
  have hPc : PP g (wS g sa ca la le ce) _ := hP
  refine zcallR (va_runV (As := [.int v]) (rest := [.int (nI w), .ref ca]) (b := sa) S0 (c_X2_cut l g sa ca la le ce v) (cwV 1 hts gX2_write_X2_cut rfl rfl rfl (by decide +kernel) ⟨by decide, by decide⟩) (zpreV hK hPc (va_recv hK.1 hPc (ci := 2) (q0 := 0) rfl rfl)) rfl rfl hl.1 rfl (lv_room (Nat.le_of_ble_eq_true rfl)) dX2_write_15 ⟨by decide, by decide⟩) (fun r15 h15 => ?_)
  subst h15
  refine n_iast (i := w) (x := (cutI la v)) (ws1 := wS g sa ca la le (upd ce w (cutI la v))) hx hb hK.1 hP hD hS 1 0 rfl rfl (by omega) (by decide) (upd ce w (cutI la v)) rfl rfl dX2_write_18 (fun H locs hP hD hS => ?_)
  exact zretMV (w1 := fun (uu : Unit) => wS g sa ca la le (upd ce w (cutI la v))) () hx hb hr hlocks hS trivial hP dX2_write_19

set_option maxHeartbeats 4000000 in
set_option maxRecDepth 100000 in
theorem c_X2_takeCells_two (l : Launch) (g : Gx) (sa : Nat) (ca : Nat) (sb : Nat) (cb : Nat) (la : Int32) (le : Nat) (ce : Nat → Int32) (lb : Int32) (lf : Nat) (cf : Nat → Int32) (j : Nat) (i : Nat) (n : Nat) (hle : le ≤ 60) (hlf : lf ≤ 60) (hjn : j + n ≤ le) (hin : i + n ≤ lf) : Met l yX2_takeCells wsX2_takeCells ({ frames := 1, cells := 0, slots := 0, locals := 26 } : Room) (PcM g [.ref sa, .int (nI j), .ref sb, .int (nI i), .int (nI n)] (wSS g sa ca sb cb la le ce lb lf cf)) (va_Qv (fun (uu : Unit) => True) (fun (uu : Unit) t => PP g (wSS g sa ca sb cb la le (va_cpy cf ce i j n) lb lf cf) t.heap) (inW (wSS g sa ca sb cb la le ce lb lf cf))) 0 0 (inW (wSS g sa ca sb cb la le ce lb lf cf)) := by
  refine zenterM (cc := cX2_takeCells) (maxL := 5) (ret := none) (by decide) rfl (Nat.le_of_ble_eq_true rfl) ?_
  intro P E s mt below meth cd ls hx hb hml hown hts hr hlocks hP hK hD hS hl
  skip
  have hl : lv_has ls 5 [(0, .ref sa), (1, .int (nI j)), (2, .ref sb), (3, .int (nI i)), (4, .int (nI n))] := hl
  have S0 : CallFix P mt cd cX2_takeCells 5 s [.ref sa, .int (nI j), .ref sb, .int (nI i), .int (nI n)].toArray wsX2_takeCells RX2 := ⟨hx, hb, hml, hown, hts⟩
  refine lv_aload_n hx hb dX2_takeCells_0 rfl (lv_at hl 0 rfl) ?_
  refine lv_iload_n hx hb dX2_takeCells_1 rfl (lv_at hl 1 rfl) ?_
  refine lv_iload hx hb dX2_takeCells_2 (lv_at hl 4 rfl) ?_
  have hPc : PP g (wS g sa ca la le ce) _ := (P_sub (w := wS g sa ca la le ce) hP [0, 1] rfl)
  refine zcallR (va_runV (As := [.int (nI j), .int (nI n)]) (rest := []) (b := sa) S0 (c_X2_hasCells_in l g sa ca la le ce j n (by omega) hjn) (cwV 2 hts gX2_takeCells_X2_hasCells rfl rfl rfl (by decide +kernel) ⟨by decide, by decide⟩) (zpreV hK hPc (va_recv hK.1 hPc (ci := 2) (q0 := 0) rfl rfl)) rfl rfl hl.1 rfl (lv_room (Nat.le_of_ble_eq_true rfl)) dX2_takeCells_4 ⟨by decide, by decide⟩) (fun r4 h4 => ?_)
  subst h4
  refine lv_if_eq (tgt := 35) hx hb dX2_takeCells_7 (by decide) (fun c7 => ?_) (fun c7 => ?_)
  · exact absurd c7 (by decide)
  refine lv_aload_n hx hb dX2_takeCells_10 rfl (lv_at hl 2 rfl) ?_
  refine lv_iload_n hx hb dX2_takeCells_11 rfl (lv_at hl 3 rfl) ?_
  refine lv_iload hx hb dX2_takeCells_12 (lv_at hl 4 rfl) ?_
  have hPc : PP g (wS g sb cb lb lf cf) _ := (P_sub (w := wS g sb cb lb lf cf) hP [2, 3] rfl)
  refine zcallR (va_runV (As := [.int (nI i), .int (nI n)]) (rest := []) (b := sb) S0 (c_X2_hasCells_in l g sb cb lb lf cf i n hlf hin) (cwV 2 hts gX2_takeCells_X2_hasCells rfl rfl rfl (by decide +kernel) ⟨by decide, by decide⟩) (zpreV hK hPc (va_recv hK.1 hPc (ci := 2) (q0 := 0) rfl rfl)) rfl rfl hl.1 rfl (lv_room (Nat.le_of_ble_eq_true rfl)) dX2_takeCells_14 ⟨by decide, by decide⟩) (fun r14 h14 => ?_)
  subst h14
  refine lv_if_eq (tgt := 35) hx hb dX2_takeCells_17 (by decide) (fun c17 => ?_) (fun c17 => ?_)
  · exact absurd c17 (by decide)
  refine lv_aload_n hx hb dX2_takeCells_20 rfl (lv_at hl 2 rfl) ?_
  refine va_get (D := g.1) (ci := 2) (v := .ref cb) (C := RX2) (T := TX2) (N := 3) hx hb hts (fun _ h => (List.mem_cons_of_mem _ (List.mem_append_right _ h))) hown hK.1 hP 2 rfl rfl 0 (by decide) (hts _ (List.mem_of_getElem? (i := 1) rfl)) (fun _ h9 => h9) rfl dX2_takeCells_21 ?_
  refine lv_iload_n hx hb dX2_takeCells_24 rfl (lv_at hl 3 rfl) ?_
  refine lv_aload_n hx hb dX2_takeCells_25 rfl (lv_at hl 0 rfl) ?_
  refine va_get (D := g.1) (ci := 2) (v := .ref ca) (C := RX2) (T := TX2) (N := 3) hx hb hts (fun _ h => (List.mem_cons_of_mem _ (List.mem_append_right _ h))) hown hK.1 hP 0 rfl rfl 0 (by decide) (hts _ (List.mem_of_getElem? (i := 1) rfl)) (fun _ h9 => h9) rfl dX2_takeCells_26 ?_
  refine lv_iload_n hx hb dX2_takeCells_29 rfl (lv_at hl 1 rfl) ?_
  refine lv_iload hx hb dX2_takeCells_30 (lv_at hl 4 rfl) ?_
  refine n_copy (sp := i) (dp := j) (n := n) (ws1 := wSS g sa ca sb cb la le (va_cpy cf ce i j n) lb lf cf) hx hb (hml.trans hl.1.symm) hown (hts _ (List.mem_of_getElem? (i := 2) rfl)) (hts _ (List.mem_of_getElem? (i := 3) rfl)) (hts _ (List.mem_of_getElem? (i := 4) rfl)) (hts _ (List.mem_of_getElem? (i := 5) rfl)) hK.1 hP hD hS 3 1 0 0 rfl rfl rfl rfl rfl (by omega) (by omega) (by omega) (by omega) (Nat.le_of_ble_eq_true rfl) (Nat.le_of_ble_eq_true rfl) rfl dX2_takeCells_32 (fun H locs hP hD hS => ?_)
  exact zretMV (w1 := fun (uu : Unit) => wSS g sa ca sb cb la le (va_cpy cf ce i j n) lb lf cf) () hx hb hr hlocks hS trivial hP dX2_takeCells_35

set_option maxHeartbeats 4000000 in
set_option maxRecDepth 100000 in
theorem c_X2_takeCells_same (l : Launch) (g : Gx) (sa : Nat) (ca : Nat) (la : Int32) (le : Nat) (ce : Nat → Int32) (j : Nat) (i : Nat) (n : Nat) (hle : le ≤ 60) (hjn : j + n ≤ le) (hin : i + n ≤ le) : Met l yX2_takeCells wsX2_takeCells ({ frames := 1, cells := 0, slots := 0, locals := 26 } : Room) (PcM g [.ref sa, .int (nI j), .ref sa, .int (nI i), .int (nI n)] (wS g sa ca la le ce)) (va_Qv (fun (uu : Unit) => True) (fun (uu : Unit) t => PP g (wS g sa ca la le (va_cpy ce ce i j n)) t.heap) (inW (wS g sa ca la le ce))) 0 0 (inW (wS g sa ca la le ce)) := by
  refine zenterM (cc := cX2_takeCells) (maxL := 5) (ret := none) (by decide) rfl (Nat.le_of_ble_eq_true rfl) ?_
  intro P E s mt below meth cd ls hx hb hml hown hts hr hlocks hP hK hD hS hl
  skip
  have hl : lv_has ls 5 [(0, .ref sa), (1, .int (nI j)), (2, .ref sa), (3, .int (nI i)), (4, .int (nI n))] := hl
  have S0 : CallFix P mt cd cX2_takeCells 5 s [.ref sa, .int (nI j), .ref sa, .int (nI i), .int (nI n)].toArray wsX2_takeCells RX2 := ⟨hx, hb, hml, hown, hts⟩
  refine lv_aload_n hx hb dX2_takeCells_0 rfl (lv_at hl 0 rfl) ?_
  refine lv_iload_n hx hb dX2_takeCells_1 rfl (lv_at hl 1 rfl) ?_
  refine lv_iload hx hb dX2_takeCells_2 (lv_at hl 4 rfl) ?_
  have hPc : PP g (wS g sa ca la le ce) _ := hP
  refine zcallR (va_runV (As := [.int (nI j), .int (nI n)]) (rest := []) (b := sa) S0 (c_X2_hasCells_in l g sa ca la le ce j n (by omega) hjn) (cwV 2 hts gX2_takeCells_X2_hasCells rfl rfl rfl (by decide +kernel) ⟨by decide, by decide⟩) (zpreV hK hPc (va_recv hK.1 hPc (ci := 2) (q0 := 0) rfl rfl)) rfl rfl hl.1 rfl (lv_room (Nat.le_of_ble_eq_true rfl)) dX2_takeCells_4 ⟨by decide, by decide⟩) (fun r4 h4 => ?_)
  subst h4
  refine lv_if_eq (tgt := 35) hx hb dX2_takeCells_7 (by decide) (fun c7 => ?_) (fun c7 => ?_)
  · exact absurd c7 (by decide)
  refine lv_aload_n hx hb dX2_takeCells_10 rfl (lv_at hl 2 rfl) ?_
  refine lv_iload_n hx hb dX2_takeCells_11 rfl (lv_at hl 3 rfl) ?_
  refine lv_iload hx hb dX2_takeCells_12 (lv_at hl 4 rfl) ?_
  have hPc : PP g (wS g sa ca la le ce) _ := hP
  refine zcallR (va_runV (As := [.int (nI i), .int (nI n)]) (rest := []) (b := sa) S0 (c_X2_hasCells_in l g sa ca la le ce i n (by omega) hin) (cwV 2 hts gX2_takeCells_X2_hasCells rfl rfl rfl (by decide +kernel) ⟨by decide, by decide⟩) (zpreV hK hPc (va_recv hK.1 hPc (ci := 2) (q0 := 0) rfl rfl)) rfl rfl hl.1 rfl (lv_room (Nat.le_of_ble_eq_true rfl)) dX2_takeCells_14 ⟨by decide, by decide⟩) (fun r14 h14 => ?_)
  subst h14
  refine lv_if_eq (tgt := 35) hx hb dX2_takeCells_17 (by decide) (fun c17 => ?_) (fun c17 => ?_)
  · exact absurd c17 (by decide)
  refine lv_aload_n hx hb dX2_takeCells_20 rfl (lv_at hl 2 rfl) ?_
  refine va_get (D := g.1) (ci := 2) (v := .ref ca) (C := RX2) (T := TX2) (N := 3) hx hb hts (fun _ h => (List.mem_cons_of_mem _ (List.mem_append_right _ h))) hown hK.1 hP 0 rfl rfl 0 (by decide) (hts _ (List.mem_of_getElem? (i := 1) rfl)) (fun _ h9 => h9) rfl dX2_takeCells_21 ?_
  refine lv_iload_n hx hb dX2_takeCells_24 rfl (lv_at hl 3 rfl) ?_
  refine lv_aload_n hx hb dX2_takeCells_25 rfl (lv_at hl 0 rfl) ?_
  refine va_get (D := g.1) (ci := 2) (v := .ref ca) (C := RX2) (T := TX2) (N := 3) hx hb hts (fun _ h => (List.mem_cons_of_mem _ (List.mem_append_right _ h))) hown hK.1 hP 0 rfl rfl 0 (by decide) (hts _ (List.mem_of_getElem? (i := 1) rfl)) (fun _ h9 => h9) rfl dX2_takeCells_26 ?_
  refine lv_iload_n hx hb dX2_takeCells_29 rfl (lv_at hl 1 rfl) ?_
  refine lv_iload hx hb dX2_takeCells_30 (lv_at hl 4 rfl) ?_
  refine n_copy (sp := i) (dp := j) (n := n) (ws1 := wS g sa ca la le (va_cpy ce ce i j n)) hx hb (hml.trans hl.1.symm) hown (hts _ (List.mem_of_getElem? (i := 2) rfl)) (hts _ (List.mem_of_getElem? (i := 3) rfl)) (hts _ (List.mem_of_getElem? (i := 4) rfl)) (hts _ (List.mem_of_getElem? (i := 5) rfl)) hK.1 hP hD hS 1 1 0 0 rfl rfl rfl rfl rfl (by omega) (by omega) (by omega) (by omega) (Nat.le_of_ble_eq_true rfl) (Nat.le_of_ble_eq_true rfl) rfl dX2_takeCells_32 (fun H locs hP hD hS => ?_)
  exact zretMV (w1 := fun (uu : Unit) => wS g sa ca la le (va_cpy ce ce i j n)) () hx hb hr hlocks hS trivial hP dX2_takeCells_35
