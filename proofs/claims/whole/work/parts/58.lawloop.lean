/-! THE CLAIM OUT OF ONE WALK OF THE LAW'S BODY. Your part is whole_start (and what it stands on); all else here is the same for every law, but numbers. -/
def R_law : String := "WavePassLaw"
def lw_P (b : Addr) (xs : List Int32) (args : Array Value) (s : State) : Prop := args = #[.ref b] ∧ s.IntsAt b xs ∧ xs.length ≤ 3584 ∧ (Jvm.Cond.and given_1 narrow_1).before args s = true
def lw_Q (_ : Array Value) (s : State) (o : Outcome) (t : State) : Prop := o = .returned (some (.int 1)) ∧ Framed s o t [] 600000 7302250
def lw_Z (below : List Frame) (a : Array Value) (s : State) : State → Prop := fun t => ∃ o, t.status = .running ∧ Ended t below o ∧ lw_Q a s o t
/-- the law's own end, with 1 on the stack, nothing written that was there before, its room as the claim has it -/
theorem lw_ret {p : Program} {l : Launch} {e : Env} {s : State} {m : MethodId} {below : List Frame} {meth : Method} {c : Code} {b : Nat} (hx : p.tables.exec = Jvm.exec) (hb : c.code = code) (hr : meth.sig.returnType = ret) (hlocks : meth.locks = false) {pc : Nat} {H : Heap} {ls : Array Slot} (hdg : decode code pc = .ok (.ireturn, 1)) : W p l e room_1 s m #[Value.ref b] below meth c H [] 600000 7302250 (lw_Z below #[Value.ref b] s) (F0 m pc ls [.int 1]) := by
  intro T hT X
  obtain ⟨fs, hret, hrun, hended, hW, hframe⟩ := X.leave (v := some (.int 1)) (hlocks := hlocks) (fun h => by rw [hr] at h; cases h)
  have hmeth' : T.vm.method? m = some meth := X.method'
  refine ⟨T.setFrames fs, ?_, .returned (some (.int 1)), hrun, hended, rfl, ⟨_, rfl⟩, hW, hframe⟩
  jvm_step X.here [X.here.top, hx, hb, hdg, hmeth', hr, ret, narrow_b1]
  (try refine ⟨rfl, ?_⟩); (try refine ⟨rfl, ?_⟩)
  first | (intro acts; rw [hret _ acts rfl rfl rfl]) | rw [hret _ _ rfl rfl rfl]
  exact Steps.refl _
/-- what holds at the law's entry: the machine, the code, the tables' words (any of lw_tbl by 'hts w (by decide +kernel)'), the script of L ints xs at the cell b, what the Statement gives of the start (any of its parts by flat_of_before) -/
def lw_At (p : Program) (s : State) (m : MethodId) (meth : Method) (c : Code) (b L : Nat) (xs : Nat → Int32) : Prop :=
  p.tables.exec = Jvm.exec ∧ c.code = code ∧ meth.sig.returnType = ret ∧ c.maxLocals = 4 ∧ s.vm.findClass R_law = some m.cls ∧ (∀ w ∈ lw_tbl, w.before #[Value.ref b] s = true) ∧ va_X b L xs s s.heap ∧ b < s.heap.size ∧ meth.locks = false ∧ (Jvm.Cond.and given_1 narrow_1).before #[Value.ref b] s = true
theorem LawI.S {g : Gx} {s : State} {x y : Nat} {H : Heap} {locs : List Loc} (h : LawI g s x y H locs) : va_S (fun q : Nat => s.heap.size ≤ q) s.heap H locs := by
  obtain ⟨sh, co, ck, ch, cl, vo, vpa, vma, re, rua, rla, rma, rda, sad, cad, ya, yb, yc, yd, ye, yf, yg, yh, yi, yj, yk, yl, tr, ft, np, sl, kd, hg, nr, ru, rl, rm, rd, lane, ml, cel, lk, vn, vp, vm, ps, rs, rn, rk, rh, lg, fk, gt, tkn, hG, hP, hD, hS⟩ := h
  exact hS
set_option maxHeartbeats 4000000 in
set_option maxRecDepth 100000 in
theorem law_loop {P : Program} {l : Launch} {E : Env} {s : State} {mt : MethodId} {below : List Frame} {meth : Method} {cd : Code} {b L : Nat} {xs : Nat → Int32} {g : Gx} {x y : Nat} (hC : LawC P s mt cd b L xs g) (hr : meth.sig.returnType = ret) (hlocks : meth.locks = false) : ∀ (nn i : Nat), L + 7 - i < nn → i ≤ L → ∀ (H : Heap) (locs : List Loc) (ls : Array Slot), LawI g s x y H locs → lv_has ls 4 [(0, .ref b), (1, .ref x), (2, .ref y), (3, .int (nI i))] → W P l E room_1 s mt [Value.ref b].toArray below meth cd H locs 35 734 (lw_Z below [Value.ref b].toArray s) (F0 mt 18 ls []) := by
  intro nn
  induction nn with
  | zero => intro i hmu; exact absurd hmu (Nat.not_lt_zero _)
  | succ nn ih =>
    intro i hmu hi H locs ls hI hl
    obtain ⟨hx, hb, S0, hX, hbl, hK, hL⟩ := id hC
    have hS := hI.S
    have hbA : ¬ (fun q : Nat => s.heap.size ≤ q) b := Nat.not_le.mpr hbl
    have hL2 : L < 2 ^ 31 := by omega
    refine lv_iload_n hx hb dL_law_18 rfl (lv_at hl 3 rfl) ?_
    refine lv_aload_n hx hb dL_law_19 rfl (lv_at hl 0 rfl) ?_
    refine va_slen hx hb hX hbl hbA hS dL_law_20 ?_
    refine ztopI (nI L) rfl ?_
    refine lv_bipush (v := nI 7) hx hb dL_law_21 (by decide) ?_
    refine lv_isub hx hb dL_law_23 ?_
    refine lv_icmp_gt (tgt := 1221) hx hb dL_law_24 (by decide) (fun c24 => ?_) (fun c24 => ?_)
    · refine lv_iconst (v := 1) hx hb dL_law_1221 (by decide) ?_
      refine va_forget (fun q hq => hS.2.2 q hq) ?_
      refine W.widen (k := 600000) (n := 7302250) (Nat.le_of_ble_eq_true rfl) (Nat.le_of_ble_eq_true rfl) ?_
      exact lw_ret hx hb hr hlocks dL_law_1222
    · have h7 : i + 7 ≤ L := (lw_less hL c24).resolve_right (by omega)
      have next : ∀ (H : Heap) (locs : List Loc) (ls : Array Slot), LawI g s x y H locs → lv_has ls 4 [(0, .ref b), (1, .ref x), (2, .ref y), (3, .int (nI i))] → W P l E room_1 s mt [Value.ref b].toArray below meth cd H locs 35 734 (lw_Z below [Value.ref b].toArray s) (F0 mt 1215 ls []) := by
        intro H locs ls hI hl
        refine n_iinc (a := i) (d := 7) (lv' := [(3, .int (nI (i + 7))), (0, .ref b), (1, .ref x), (2, .ref y)]) hx hb dL_law_1215 hl (k := 3) rfl (by decide) (by decide) rfl (fun ls hl => ?_)
        refine lv_goto (tgt := 18) hx hb dL_law_1218 (by decide) ?_
        exact ih (i + 7) (by omega) (by omega) H locs ls hI (lv_sub hl [1, 2, 3, 0] rfl)
      refine lv_aload_n hx hb dL_law_27 rfl (lv_at hl 0 rfl) ?_
      refine lv_iload_n hx hb dL_law_28 rfl (lv_at hl 3 rfl) ?_
      refine n_sld (k := i) hx hb hX hbl hbA hS (by omega) hL2 dL_law_29 ?_
      refine lv_bipush (v := nI 31) hx hb dL_law_30 (by decide) ?_
      refine lv_iand hx hb dL_law_32 ?_
      obtain ⟨j, hj, ej⟩ := and31 (xs i)
      refine ztopI (nI j) ej ?_
      rcases (show j = 0 ∨ j = 1 ∨ j = 2 ∨ j = 3 ∨ j = 4 ∨ j = 5 ∨ j = 6 ∨ j = 7 ∨ j = 8 ∨ j = 9 ∨ j = 10 ∨ j = 11 ∨ j = 12 ∨ j = 13 ∨ j = 14 ∨ j = 15 ∨ j = 16 ∨ j = 17 ∨ j = 18 ∨ j = 19 ∨ j = 20 ∨ j = 21 ∨ j = 22 ∨ j = 23 ∨ j = 24 ∨ j = 25 ∨ j = 26 ∨ j = 27 ∨ j = 28 ∨ j = 29 ∨ j = 30 ∨ j = 31 by omega) with rfl | rfl | rfl | rfl | rfl | rfl | rfl | rfl | rfl | rfl | rfl | rfl | rfl | rfl | rfl | rfl | rfl | rfl | rfl | rfl | rfl | rfl | rfl | rfl | rfl | rfl | rfl | rfl | rfl | rfl | rfl | rfl
      · refine lv_tableIn (off := 139) (tgt := 172) hx hb dL_law_33 (by decide) (by decide) (by rfl) (by decide) ?_
        exact lawc_0 hC h7 hI hl next
      · refine lv_tableIn (off := 192) (tgt := 225) hx hb dL_law_33 (by decide) (by decide) (by rfl) (by decide) ?_
        exact lawc_1 hC h7 hI hl next
      · refine lv_tableIn (off := 225) (tgt := 258) hx hb dL_law_33 (by decide) (by decide) (by rfl) (by decide) ?_
        exact lawc_2 hC h7 hI hl next
      · refine lv_tableIn (off := 268) (tgt := 301) hx hb dL_law_33 (by decide) (by decide) (by rfl) (by decide) ?_
        exact lawc_3 hC h7 hI hl next
      · refine lv_tableIn (off := 291) (tgt := 324) hx hb dL_law_33 (by decide) (by decide) (by rfl) (by decide) ?_
        exact lawc_4 hC h7 hI hl next
      · refine lv_tableIn (off := 334) (tgt := 367) hx hb dL_law_33 (by decide) (by decide) (by rfl) (by decide) ?_
        exact lawc_5 hC h7 hI hl next
      · refine lv_tableIn (off := 377) (tgt := 410) hx hb dL_law_33 (by decide) (by decide) (by rfl) (by decide) ?_
        exact lawc_6 hC h7 hI hl next
      · refine lv_tableIn (off := 410) (tgt := 443) hx hb dL_law_33 (by decide) (by decide) (by rfl) (by decide) ?_
        exact lawc_7 hC h7 hI hl next
      · refine lv_tableIn (off := 443) (tgt := 476) hx hb dL_law_33 (by decide) (by decide) (by rfl) (by decide) ?_
        exact lawc_8 hC h7 hI hl next
      · refine lv_tableIn (off := 466) (tgt := 499) hx hb dL_law_33 (by decide) (by decide) (by rfl) (by decide) ?_
        exact lawc_9 hC h7 hI hl next
      · refine lv_tableIn (off := 489) (tgt := 522) hx hb dL_law_33 (by decide) (by decide) (by rfl) (by decide) ?_
        exact lawc_10 hC h7 hI hl next
      · refine lv_tableIn (off := 502) (tgt := 535) hx hb dL_law_33 (by decide) (by decide) (by rfl) (by decide) ?_
        exact lawc_11 hC h7 hI hl next
      · refine lv_tableIn (off := 535) (tgt := 568) hx hb dL_law_33 (by decide) (by decide) (by rfl) (by decide) ?_
        exact lawc_12 hC h7 hI hl next
      · refine lv_tableIn (off := 558) (tgt := 591) hx hb dL_law_33 (by decide) (by decide) (by rfl) (by decide) ?_
        exact lawc_13 hC h7 hI hl next
      · refine lv_tableIn (off := 633) (tgt := 666) hx hb dL_law_33 (by decide) (by decide) (by rfl) (by decide) ?_
        exact lawc_14 hC h7 hI hl next
      · refine lv_tableIn (off := 702) (tgt := 735) hx hb dL_law_33 (by decide) (by decide) (by rfl) (by decide) ?_
        exact lawc_15 hC h7 hI hl next
      · refine lv_tableIn (off := 725) (tgt := 758) hx hb dL_law_33 (by decide) (by decide) (by rfl) (by decide) ?_
        exact lawc_16 hC h7 hI hl next
      · refine lv_tableIn (off := 758) (tgt := 791) hx hb dL_law_33 (by decide) (by decide) (by rfl) (by decide) ?_
        exact lawc_17 hC h7 hI hl next
      · refine lv_tableIn (off := 781) (tgt := 814) hx hb dL_law_33 (by decide) (by decide) (by rfl) (by decide) ?_
        exact lawc_18 hC h7 hI hl next
      · refine lv_tableIn (off := 794) (tgt := 827) hx hb dL_law_33 (by decide) (by decide) (by rfl) (by decide) ?_
        exact lawc_19 hC h7 hI hl next
      · refine lv_tableIn (off := 838) (tgt := 871) hx hb dL_law_33 (by decide) (by decide) (by rfl) (by decide) ?_
        exact lawc_20 hC h7 hI hl next
      · refine lv_tableIn (off := 881) (tgt := 914) hx hb dL_law_33 (by decide) (by decide) (by rfl) (by decide) ?_
        exact lawc_21 hC h7 hI hl next
      · refine lv_tableIn (off := 904) (tgt := 937) hx hb dL_law_33 (by decide) (by decide) (by rfl) (by decide) ?_
        exact lawc_22 hC h7 hI hl next
      · refine lv_tableIn (off := 947) (tgt := 980) hx hb dL_law_33 (by decide) (by decide) (by rfl) (by decide) ?_
        exact lawc_23 hC h7 hI hl next
      · refine lv_tableIn (off := 991) (tgt := 1024) hx hb dL_law_33 (by decide) (by decide) (by rfl) (by decide) ?_
        exact lawc_24 hC h7 hI hl next
      · refine lv_tableIn (off := 1054) (tgt := 1087) hx hb dL_law_33 (by decide) (by decide) (by rfl) (by decide) ?_
        exact lawc_25 hC h7 hI hl next
      · refine lv_tableIn (off := 1077) (tgt := 1110) hx hb dL_law_33 (by decide) (by decide) (by rfl) (by decide) ?_
        exact lawc_26 hC h7 hI hl next
      · refine lv_tableIn (off := 1100) (tgt := 1133) hx hb dL_law_33 (by decide) (by decide) (by rfl) (by decide) ?_
        exact lawc_27 hC h7 hI hl next
      · refine lv_tableIn (off := 1133) (tgt := 1166) hx hb dL_law_33 (by decide) (by decide) (by rfl) (by decide) ?_
        exact lawc_28 hC h7 hI hl next
      · refine lv_tableIn (off := 1146) (tgt := 1179) hx hb dL_law_33 (by decide) (by decide) (by rfl) (by decide) ?_
        exact lawc_29 hC h7 hI hl next
      · refine lv_tableIn (off := 1159) (tgt := 1192) hx hb dL_law_33 (by decide) (by decide) (by rfl) (by decide) ?_
        exact lawc_30 hC h7 hI hl next
      · refine lv_tableOut (tgt := 1215) hx hb dL_law_33 (by decide) (by decide) ?_
        exact next H locs ls hI hl
