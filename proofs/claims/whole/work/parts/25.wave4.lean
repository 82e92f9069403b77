theorem mul01 {a b : Nat} (ha : a ≤ 1) (hb : b ≤ 1) : a * b ≤ 1 := by
  rcases (show a = 0 ∨ a = 1 by omega) with e | e <;> rw [e] <;> omega
theorem askY {v : Int32} (h : nI 10 ≤ v ∧ v ≤ nI 15) : ∃ w, (10 ≤ w ∧ w < 16) ∧ v = nI w := by
  obtain ⟨j, hj, rfl⟩ := nI_btw (x := v) (n := 15) (by decide) (fun z => by
    have h1 := h.1
    rw [Int32.lt_iff_toInt_lt] at z
    rw [Int32.le_iff_toInt_le] at h1
    have e0 : (0 : Int32).toInt = 0 := by decide
    have e1 : (nI 10).toInt = 10 := by decide
    omega) h.2
  have h1 := (nI_leI (by decide) (by omega)).mp h.1
  exact ⟨j, ⟨h1, by omega⟩, rfl⟩
theorem askN {v : Int32} (h3 : ¬ isP 4 v) (h : ¬ (nI 10 ≤ v ∧ v ≤ nI 15)) : ¬ isA v := fun z => by
  rcases z with z | ⟨z1, z2⟩
  · exact h3 z
  · obtain ⟨j, hj, rfl⟩ := nI_btl (n := 16) (by decide) z1.1 z1.2
    rcases Nat.lt_or_ge j 10 with c | c
    · exact z2 (isP_of (by decide) c)
    · exact h ⟨nI_le (by omega) (by omega), nI_le (by omega) (by omega)⟩
theorem bset20 (f : Nat → Nat) {n : Nat} (h : n ≤ 20) : bset f n < 2 ^ 20 := Nat.lt_of_lt_of_le (bset_lt f n) (Nat.pow_le_pow_right (by decide) h)
theorem shV_pl {g : Gx} {x : Nat} {sh : Nat} {co : Nat} {ck : Nat} {ch : Nat} {cl : Nat} {vo : Nat} {vpa : Nat} {vma : Nat} {re : Nat} {rua : Nat} {rla : Nat} {rma : Nat} {rda : Nat} {sad : Nat → Nat} {cad : Nat → Nat} {tr : Int32} {ft : Nat} {np : Nat} {sl : Nat} {kd : Nat → Nat} {hg : Nat → Nat} {lk : Nat → Nat} {vn : Nat} {vp : Nat → Int32} {vm : Nat → Int32} {nr : Nat} {ru : Nat → Nat} {rl : Nat → Nat} {rm : Nat → Nat} {rd : Nat → Nat} {lane : Nat → Nat} {ml : Nat → Nat} {cel : Nat → Nat → Int32} {k : Nat} (hk : k < 4) : [6, 7, 8, 14 + 2 * k, 15 + 2 * k].map (fun i => (wX g x sh co ck ch cl vo vpa vma re rua rla rma rda sad cad tr ft np sl kd hg lk vn vp vm nr ru rl rm rd lane ml cel)[i]?) = (wVS g vo vpa vma (sad k) (cad k) vn vp vm (lC (lane k)) (ln lane ml k) (cel k)).map some := by
  rcases (show k = 0 ∨ k = 1 ∨ k = 2 ∨ k = 3 by omega) with rfl | rfl | rfl | rfl <;> rfl
theorem shV_nd {k : Nat} (hk : k < 4) : va_nd [6, 7, 8, 14 + 2 * k, 15 + 2 * k] = true := by
  rcases (show k = 0 ∨ k = 1 ∨ k = 2 ∨ k = 3 by omega) with rfl | rfl | rfl | rfl <;> decide
theorem shV_set {g : Gx} {x : Nat} {sh : Nat} {co : Nat} {ck : Nat} {ch : Nat} {cl : Nat} {vo : Nat} {vpa : Nat} {vma : Nat} {re : Nat} {rua : Nat} {rla : Nat} {rma : Nat} {rda : Nat} {sad : Nat → Nat} {cad : Nat → Nat} {tr : Int32} {ft : Nat} {np : Nat} {sl : Nat} {kd : Nat → Nat} {hg : Nat → Nat} {lk : Nat → Nat} {vn : Nat} {vp : Nat → Int32} {vm : Nat → Int32} {nr : Nat} {ru : Nat → Nat} {rl : Nat → Nat} {rm : Nat → Nat} {rd : Nat → Nat} {lane : Nat → Nat} {ml : Nat → Nat} {cel : Nat → Nat → Int32} {k : Nat} (hk : k < 4) (vn' : Nat) (vp' vm' : Nat → Int32) : setAll (wX g x sh co ck ch cl vo vpa vma re rua rla rma rda sad cad tr ft np sl kd hg lk vn vp vm nr ru rl rm rd lane ml cel) [6, 7, 8, 14 + 2 * k, 15 + 2 * k] (wVS g vo vpa vma (sad k) (cad k) vn' vp' vm' (lC (lane k)) (ln lane ml k) (cel k)) = wX g x sh co ck ch cl vo vpa vma re rua rla rma rda sad cad tr ft np sl kd hg lk vn' vp' vm' nr ru rl rm rd lane ml cel := by
  rcases (show k = 0 ∨ k = 1 ∨ k = 2 ∨ k = 3 by omega) with rfl | rfl | rfl | rfl <;> rfl
theorem shC_pl {g : Gx} {x : Nat} {sh : Nat} {co : Nat} {ck : Nat} {ch : Nat} {cl : Nat} {vo : Nat} {vpa : Nat} {vma : Nat} {re : Nat} {rua : Nat} {rla : Nat} {rma : Nat} {rda : Nat} {sad : Nat → Nat} {cad : Nat → Nat} {tr : Int32} {ft : Nat} {np : Nat} {sl : Nat} {kd : Nat → Nat} {hg : Nat → Nat} {lk : Nat → Nat} {vn : Nat} {vp : Nat → Int32} {vm : Nat → Int32} {nr : Nat} {ru : Nat → Nat} {rl : Nat → Nat} {rm : Nat → Nat} {rd : Nat → Nat} {lane : Nat → Nat} {ml : Nat → Nat} {cel : Nat → Nat → Int32} {k : Nat} (hk : k < 4) : [2, 3, 4, 5, 14 + 2 * k, 15 + 2 * k].map (fun i => (wX g x sh co ck ch cl vo vpa vma re rua rla rma rda sad cad tr ft np sl kd hg lk vn vp vm nr ru rl rm rd lane ml cel)[i]?) = (wCS g co ck ch cl (sad k) (cad k) np sl kd hg lk (lC (lane k)) (ln lane ml k) (cel k)).map some := by
  rcases (show k = 0 ∨ k = 1 ∨ k = 2 ∨ k = 3 by omega) with rfl | rfl | rfl | rfl <;> rfl
theorem shC_nd {k : Nat} (hk : k < 4) : va_nd [2, 3, 4, 5, 14 + 2 * k, 15 + 2 * k] = true := by
  rcases (show k = 0 ∨ k = 1 ∨ k = 2 ∨ k = 3 by omega) with rfl | rfl | rfl | rfl <;> decide
theorem shC_set {g : Gx} {x : Nat} {sh : Nat} {co : Nat} {ck : Nat} {ch : Nat} {cl : Nat} {vo : Nat} {vpa : Nat} {vma : Nat} {re : Nat} {rua : Nat} {rla : Nat} {rma : Nat} {rda : Nat} {sad : Nat → Nat} {cad : Nat → Nat} {tr : Int32} {ft : Nat} {np : Nat} {sl : Nat} {kd : Nat → Nat} {hg : Nat → Nat} {lk : Nat → Nat} {vn : Nat} {vp : Nat → Int32} {vm : Nat → Int32} {nr : Nat} {ru : Nat → Nat} {rl : Nat → Nat} {rm : Nat → Nat} {rd : Nat → Nat} {lane : Nat → Nat} {ml : Nat → Nat} {cel : Nat → Nat → Int32} {k : Nat} (hk : k < 4) (np' sl' : Nat) (kd' hg' lk' : Nat → Nat) : setAll (wX g x sh co ck ch cl vo vpa vma re rua rla rma rda sad cad tr ft np sl kd hg lk vn vp vm nr ru rl rm rd lane ml cel) [2, 3, 4, 5, 14 + 2 * k, 15 + 2 * k] (wCS g co ck ch cl (sad k) (cad k) np' sl' kd' hg' lk' (lC (lane k)) (ln lane ml k) (cel k)) = wX g x sh co ck ch cl vo vpa vma re rua rla rma rda sad cad tr ft np' sl' kd' hg' lk' vn vp vm nr ru rl rm rd lane ml cel := by
  rcases (show k = 0 ∨ k = 1 ∨ k = 2 ∨ k = 3 by omega) with rfl | rfl | rfl | rfl <;> rfl
theorem sh2_pl {g : Gx} {x : Nat} {sh : Nat} {co : Nat} {ck : Nat} {ch : Nat} {cl : Nat} {vo : Nat} {vpa : Nat} {vma : Nat} {re : Nat} {rua : Nat} {rla : Nat} {rma : Nat} {rda : Nat} {sad : Nat → Nat} {cad : Nat → Nat} {tr : Int32} {ft : Nat} {np : Nat} {sl : Nat} {kd : Nat → Nat} {hg : Nat → Nat} {lk : Nat → Nat} {vn : Nat} {vp : Nat → Int32} {vm : Nat → Int32} {nr : Nat} {ru : Nat → Nat} {rl : Nat → Nat} {rm : Nat → Nat} {rd : Nat → Nat} {lane : Nat → Nat} {ml : Nat → Nat} {cel : Nat → Nat → Int32} {k o : Nat} (hk : k < 4) (ho : o < 4) : [14 + 2 * o, 15 + 2 * o, 14 + 2 * k, 15 + 2 * k].map (fun i => (wX g x sh co ck ch cl vo vpa vma re rua rla rma rda sad cad tr ft np sl kd hg lk vn vp vm nr ru rl rm rd lane ml cel)[i]?) = (wSS g (sad o) (cad o) (sad k) (cad k) (lC (lane o)) (ln lane ml o) (cel o) (lC (lane k)) (ln lane ml k) (cel k)).map some := by
  rcases (show k = 0 ∨ k = 1 ∨ k = 2 ∨ k = 3 by omega) with rfl | rfl | rfl | rfl <;> rcases (show o = 0 ∨ o = 1 ∨ o = 2 ∨ o = 3 by omega) with rfl | rfl | rfl | rfl <;> rfl
theorem sh2_nd {k o : Nat} (hk : k < 4) (ho : o < 4) (hne : k ≠ o) : va_nd [14 + 2 * o, 15 + 2 * o, 14 + 2 * k, 15 + 2 * k] = true := by
  rcases (show k = 0 ∨ k = 1 ∨ k = 2 ∨ k = 3 by omega) with rfl | rfl | rfl | rfl <;> rcases (show o = 0 ∨ o = 1 ∨ o = 2 ∨ o = 3 by omega) with rfl | rfl | rfl | rfl <;> first | exact absurd rfl hne | decide
theorem sh2_set {g : Gx} {x : Nat} {sh : Nat} {co : Nat} {ck : Nat} {ch : Nat} {cl : Nat} {vo : Nat} {vpa : Nat} {vma : Nat} {re : Nat} {rua : Nat} {rla : Nat} {rma : Nat} {rda : Nat} {sad : Nat → Nat} {cad : Nat → Nat} {tr : Int32} {ft : Nat} {np : Nat} {sl : Nat} {kd : Nat → Nat} {hg : Nat → Nat} {lk : Nat → Nat} {vn : Nat} {vp : Nat → Int32} {vm : Nat → Int32} {nr : Nat} {ru : Nat → Nat} {rl : Nat → Nat} {rm : Nat → Nat} {rd : Nat → Nat} {lane : Nat → Nat} {ml : Nat → Nat} {cel : Nat → Nat → Int32} {k o : Nat} (hk : k < 4) (ho : o < 4) (hne : k ≠ o) (ce' : Nat → Int32) : setAll (wX g x sh co ck ch cl vo vpa vma re rua rla rma rda sad cad tr ft np sl kd hg lk vn vp vm nr ru rl rm rd lane ml cel) [14 + 2 * o, 15 + 2 * o, 14 + 2 * k, 15 + 2 * k] (wSS g (sad o) (cad o) (sad k) (cad k) (lC (lane o)) (ln lane ml o) ce' (lC (lane k)) (ln lane ml k) (cel k)) = wX g x sh co ck ch cl vo vpa vma re rua rla rma rda sad cad tr ft np sl kd hg lk vn vp vm nr ru rl rm rd lane ml (va_up cel o ce') := by
  have e := sh_set (g := g) (x := x) (sh := sh) (co := co) (ck := ck) (ch := ch) (cl := cl) (vo := vo) (vpa := vpa) (vma := vma) (re := re) (rua := rua) (rla := rla) (rma := rma) (rda := rda) (sad := sad) (cad := cad) (tr := tr) (ft := ft) (np := np) (sl := sl) (kd := kd) (hg := hg) (lk := lk) (vn := vn) (vp := vp) (vm := vm) (nr := nr) (ru := ru) (rl := rl) (rm := rm) (rd := rd) (lane := lane) (ml := ml) (cel := cel) ho lane ml (va_up cel o ce') rfl rfl (va_up_self _ _ _) (fun _ hj => ⟨rfl, rfl, va_up_ne _ _ hj⟩)
  rw [← e]
  rcases (show k = 0 ∨ k = 1 ∨ k = 2 ∨ k = 3 by omega) with rfl | rfl | rfl | rfl <;> rcases (show o = 0 ∨ o = 1 ∨ o = 2 ∨ o = 3 by omega) with rfl | rfl | rfl | rfl <;> first | exact absurd rfl hne | rfl
set_option maxHeartbeats 4000000 in
set_option maxRecDepth 100000 in
theorem c_X4_isAskable (l : Launch) (g : Gx) (v : Int32) : Met l yX4_isAskable wsX4_isAskable ({ frames := 1, cells := 0, slots := 0, locals := 22 } : Room) (PcR g [.int v] (([] : va_W))) (vp_Si (fun r => (∃ w, (w < 4 ∨ (10 ≤ w ∧ w < 16)) ∧ v = nI w ∧ r = nI 1) ∨ (¬ isA v ∧ r = nI 0))) 0 0 (fun _ => False) := by
  refine zenterR (cc := cX4_isAskable) (maxL := 1) (ret := (some .boolean)) (by decide) rfl (Nat.le_of_ble_eq_true rfl) ?_
  intro P E s mt below meth cd ls hx hb hml hown hts hr hlocks hP hK hl
  have hl : lv_has ls 1 [(0, .int v)] := hl
  have S0 : CallFix P mt cd cX4_isAskable 1 s [.int v].toArray wsX4_isAskable RX4 := ⟨hx, hb, hml, hown, hts⟩
  refine lv_iload_n hx hb dX4_isAskable_0 rfl (lv_at hl 0 rfl) ?_
  refine lv_iconst (v := (nI 0)) hx hb dX4_isAskable_1 (by decide) ?_
  refine lv_iconst (v := (nI 3)) hx hb dX4_isAskable_2 (by decide) ?_
  refine zcallR (va_runS (As := [.int v, .int (nI 0), .int (nI 3)]) (rest := []) S0 (c_X4_within_r0 l g v 3 (by omega)) (va_cwS 3 hts gX4_isAskable_X4_within rfl rfl rfl (by decide +kernel) ⟨by decide, by decide⟩) (zpreS hK (P_nil _)) rfl rfl hl.1 rfl (lv_room (Nat.le_of_ble_eq_true rfl)) dX4_isAskable_3 ⟨by decide, by decide⟩) (fun r3 h3 => ?_)
  rcases h3 with ⟨w_3, hw_3, hv_3, rfl⟩ | ⟨hn_3, rfl⟩
  · subst hv_3
    refine lv_if_ne (tgt := 20) hx hb dX4_isAskable_6 (by decide) (fun c6 => ?_) (fun c6 => ?_)
    rotate_left
    · exact absurd c6 (by decide)
    refine lv_iconst (v := (nI 1)) hx hb dX4_isAskable_20 (by decide) ?_
    refine lv_goto (tgt := 25) hx hb dX4_isAskable_21 (by decide) ?_
    exact zretI hx hb hr hlocks rfl (Or.inl ⟨w_3, Or.inl hw_3, rfl, rfl⟩) dX4_isAskable_25
  · refine lv_if_ne (tgt := 20) hx hb dX4_isAskable_6 (by decide) (fun c6 => ?_) (fun c6 => ?_)
    · exact absurd c6 (by decide)
    refine lv_iload_n hx hb dX4_isAskable_9 rfl (lv_at hl 0 rfl) ?_
    refine lv_bipush (v := (nI 10)) hx hb dX4_isAskable_10 (by decide) ?_
    refine lv_bipush (v := (nI 15)) hx hb dX4_isAskable_12 (by decide) ?_
    refine zcallR (va_runS (As := [.int v, .int (nI 10), .int (nI 15)]) (rest := []) S0 (c_X4_within l g v (nI 10) (nI 15)) (va_cwS 3 hts gX4_isAskable_X4_within rfl rfl rfl (by decide +kernel) ⟨by decide, by decide⟩) (zpreS hK (P_nil _)) rfl rfl hl.1 rfl (lv_room (Nat.le_of_ble_eq_true rfl)) dX4_isAskable_14 ⟨by decide, by decide⟩) (fun r14 h14 => ?_)
    subst h14
    have hbl := b01_le (nI 10 ≤ v ∧ v ≤ nI 15)
    refine n_if_eq (a := (b01 ((nI 10) ≤ v ∧ v ≤ (nI 15)))) (tgt := 24) hx hb (by omega) dX4_isAskable_17 (by decide) (fun c17 => ?_) (fun c17 => ?_)
    · refine lv_iconst (v := (nI 0)) hx hb dX4_isAskable_24 (by decide) ?_
      exact zretI hx hb hr hlocks rfl (Or.inr ⟨askN hn_3 (b01_0.mp c17), rfl⟩) dX4_isAskable_25
    · refine lv_iconst (v := (nI 1)) hx hb dX4_isAskable_20 (by decide) ?_
      refine lv_goto (tgt := 25) hx hb dX4_isAskable_21 (by decide) ?_
      exact zretI hx hb hr hlocks rfl (by obtain ⟨w, h1, h2⟩ := askY (b01_n0.mp c17); exact Or.inl ⟨w, Or.inr h1, h2, rfl⟩) dX4_isAskable_25

set_option maxHeartbeats 4000000 in
set_option maxRecDepth 100000 in
theorem c_X4_howOften (l : Launch) (g : Gx) (x : Nat) (sh : Nat) (co : Nat) (vo : Nat) (re : Nat) (ck : Nat) (ch : Nat) (cl : Nat) (vpa : Nat) (vma : Nat) (tr : Int32) (ft : Nat) (np : Nat) (sl : Nat) (kd : Nat → Nat) (hg : Nat → Nat) (lk : Nat → Nat) (vn : Nat) (vp : Nat → Int32) (vm : Nat → Int32) (tkn : Nat) (p : Nat) (pp : Nat → Nat) (hnp : np ≤ 6) (hvn : vn ≤ 20) (htk : tkn < 2 ^ 20) (hp6 : p < 6) (hvq : ∀ k, k < vn → vp k = nI (pp k) ∧ pp k < 6) : Met l yX4_howOften wsX4_howOften ({ frames := 2, cells := 0, slots := 0, locals := 44 } : Room) (PcR g [.ref x, .int (nI tkn), .int (nI p)] (wXVC g x sh co vo re ck ch cl vpa vma tr ft np sl kd hg lk vn vp vm)) (vp_Si (fun r => r = (if p < np then nI (pc (tkn &&& bset (fun k => b01 (pp k = p)) vn)) else -9))) 0 0 (fun _ => False) := by
  refine zenterR (cc := cX4_howOften) (maxL := 3) (ret := (some .int)) (by decide) rfl (Nat.le_of_ble_eq_true rfl) ?_
  intro P E s mt below meth cd ls hx hb hml hown hts hr hlocks hP hK hl
  have hl : lv_has ls 3 [(0, .ref x), (1, .int (nI tkn)), (2, .int (nI p))] := hl
  have S0 : CallFix P mt cd cX4_howOften 3 s [.ref x, .int (nI tkn), .int (nI p)].toArray wsX4_howOften RX4 := ⟨hx, hb, hml, hown, hts⟩
  refine lv_aload_n hx hb dX4_howOften_0 rfl (lv_at hl 0 rfl) ?_
  refine va_get (D := g.1) (ci := 4) (v := .ref co) (C := RX4) (T := TX4) (N := 6) hx hb hts (fun _ h => (List.mem_cons_of_mem _ (List.mem_append_left _ (List.mem_append_left _ (List.mem_append_right _ h))))) hown hK.1 hP 0 rfl rfl 1 (by decide) (hts _ (List.mem_of_getElem? (i := 1) rfl)) (fun _ h9 => h9) rfl dX4_howOften_1 ?_
  refine lv_iload_n hx hb dX4_howOften_4 rfl (lv_at hl 2 rfl) ?_
  have hPc : PP g (wC g co ck ch cl np sl kd hg lk) _ := (P_sub (w := wC g co ck ch cl np sl kd hg lk) hP [1, 2, 3, 4] rfl)
  refine zcallR (va_runV (As := [.int (nI p)]) (rest := []) (b := co) S0 (c_X0_hasPass l g co ck ch cl np sl kd hg lk (nI p) hnp) (cwV 1 hts gX4_howOften_X0_hasPass rfl rfl rfl (by decide +kernel) ⟨by decide, by decide⟩) (zpreV hK hPc (va_recv hK.1 hPc (ci := 0) (q0 := 0) rfl rfl)) rfl rfl hl.1 rfl (lv_room (Nat.le_of_ble_eq_true rfl)) dX4_howOften_5 ⟨by decide, by decide⟩) (fun r5 h5 => ?_)
  rcases h5 with ⟨w_5, hw_5, hv_5, rfl⟩ | ⟨hn_5, rfl⟩
  · have e5 : p < np := by have := (nI_eq (by omega) (by omega)).mp hv_5; omega
    refine lv_if_eq (tgt := 27) hx hb dX4_howOften_8 (by decide) (fun c8 => ?_) (fun c8 => ?_)
    · exact absurd c8 (by decide)
    refine lv_iload_n hx hb dX4_howOften_11 rfl (lv_at hl 1 rfl) ?_
    refine lv_aload_n hx hb dX4_howOften_12 rfl (lv_at hl 0 rfl) ?_
    refine va_get (D := g.1) (ci := 4) (v := .ref vo) (C := RX4) (T := TX4) (N := 6) hx hb hts (fun _ h => (List.mem_cons_of_mem _ (List.mem_append_left _ (List.mem_append_left _ (List.mem_append_right _ h))))) hown hK.1 hP 0 rfl rfl 2 (by decide) (hts _ (List.mem_of_getElem? (i := 2) rfl)) (fun _ h9 => h9) rfl dX4_howOften_13 ?_
    refine lv_iload_n hx hb dX4_howOften_16 rfl (lv_at hl 2 rfl) ?_
    have hPc : PP g (wV g vo vpa vma vn vp vm) _ := (P_sub (w := wV g vo vpa vma vn vp vm) hP [5, 6, 7] rfl)
    refine zcallR (va_runV (As := [.int (nI p)]) (rest := [.int (nI tkn)]) (b := vo) S0 (c_X3_onesOf l g vo vpa vma vn vp vm p pp hvn hp6 hvq) (cwV 1 hts gX4_howOften_X3_onesOf rfl rfl rfl (by decide +kernel) ⟨by decide, by decide⟩) (zpreV hK hPc (va_recv hK.1 hPc (ci := 3) (q0 := 0) rfl rfl)) rfl rfl hl.1 rfl (lv_room (Nat.le_of_ble_eq_true rfl)) dX4_howOften_17 ⟨by decide, by decide⟩) (fun r17 h17 => ?_)
    subst h17
    refine n_iand (a := tkn) (b := (bset (fun k => b01 (pp k = p)) vn)) hx hb dX4_howOften_20 ?_
    refine zcallR (va_runS (As := [.int (nI (tkn &&& (bset (fun k => b01 (pp k = p)) vn)))]) (rest := []) S0 (c_bitCount l g (tkn &&& (bset (fun k => b01 (pp k = p)) vn)) (and_lt' htk)) (va_cwS 1 hts gX4_howOften_J6_bitCount_0f7a4 rfl rfl rfl (by decide +kernel) ⟨by decide, by decide⟩) (zpreS hK (P_nil _)) rfl rfl hl.1 rfl (lv_room (Nat.le_of_ble_eq_true rfl)) dX4_howOften_21 ⟨by decide, by decide⟩) (fun r21 h21 => ?_)
    subst h21
    have f1 := pc_32 (tkn &&& (bset (fun k => b01 (pp k = p)) vn))
    refine lv_goto (tgt := 29) hx hb dX4_howOften_24 (by decide) ?_
    exact zretI hx hb hr hlocks rfl (by rw [if_pos e5]) dX4_howOften_29
  · have e5 : ¬ p < np := fun z => hn_5 (isP_of (by omega) z)
    refine lv_if_eq (tgt := 27) hx hb dX4_howOften_8 (by decide) (fun c8 => ?_) (fun c8 => ?_)
    rotate_left
    · exact absurd (by decide) c8
    refine lv_bipush (v := (-9)) hx hb dX4_howOften_27 (by decide) ?_
    exact zretI hx hb hr hlocks rfl (by rw [if_neg e5]) dX4_howOften_29

set_option maxHeartbeats 4000000 in
set_option maxRecDepth 100000 in
theorem c_X4_meet (l : Launch) (g : Gx) (x : Nat) (sh : Nat) (co : Nat) (vo : Nat) (re : Nat) (ck : Nat) (ch : Nat) (cl : Nat) (vpa : Nat) (vma : Nat) (tr : Int32) (ft : Nat) (np : Nat) (sl : Nat) (kd : Nat → Nat) (hg : Nat → Nat) (lk : Nat → Nat) (vn : Nat) (vp : Nat → Int32) (vm : Nat → Int32) (b : Nat) (w : Nat) (pp : Nat → Nat) (mm : Nat → Nat) (hnp : np ≤ 6) (hsl : sl ≤ 9) (hkd : ∀ j, kd j ≤ 2) (hhg : ∀ j, hg j ≤ 9) (hvn : vn ≤ 20) (hb6 : b < 64) (hw : w < 4 ∨ (10 ≤ w ∧ w < 16)) (hvp : ∀ k, k < vn → vp k = nI (pp k) ∧ pp k < np) (hvm : ∀ k, k < vn → vm k = nI (mm k) ∧ mm k ≤ 9) : Met l yX4_meet wsX4_meet ({ frames := 5, cells := 0, slots := 0, locals := 118 } : Room) (PcR g [.ref x, .int (nI b), .int (nI w)] (wXVC g x sh co vo re ck ch cl vpa vma tr ft np sl kd hg lk vn vp vm)) (vp_Si (fun r => r = sp_meet np sl kd hg vn vm pp mm b w)) 0 0 (fun _ => False) := by
  refine zenterR (cc := cX4_meet) (maxL := 5) (ret := (some .int)) (by decide) rfl (Nat.le_of_ble_eq_true rfl) ?_
  intro P E s mt below meth cd ls hx hb hml hown hts hr hlocks hP hK hl
  have hl : lv_has ls 5 [(0, .ref x), (1, .int (nI b)), (2, .int (nI w))] := hl
  have S0 : CallFix P mt cd cX4_meet 5 s [.ref x, .int (nI b), .int (nI w)].toArray wsX4_meet RX4 := ⟨hx, hb, hml, hown, hts⟩
  have hvq : ∀ k, k < vn → vp k = nI (pp k) ∧ pp k < 6 := fun k hk => ⟨(hvp k hk).1, by have := (hvp k hk).2; omega⟩
  refine lv_aload_n hx hb dX4_meet_0 rfl (lv_at hl 0 rfl) ?_
  refine va_get (D := g.1) (ci := 4) (v := .ref vo) (C := RX4) (T := TX4) (N := 6) hx hb hts (fun _ h => (List.mem_cons_of_mem _ (List.mem_append_left _ (List.mem_append_left _ (List.mem_append_right _ h))))) hown hK.1 hP 0 rfl rfl 2 (by decide) (hts _ (List.mem_of_getElem? (i := 1) rfl)) (fun _ h9 => h9) rfl dX4_meet_1 ?_
  have hPc : PP g (wV g vo vpa vma vn vp vm) _ := (P_sub (w := wV g vo vpa vma vn vp vm) hP [5, 6, 7] rfl)
  refine zcallR (va_runV (As := []) (rest := []) (b := vo) S0 (c_X3_firstWrongPair l g vo vpa vma vn vp vm hvn) (cwV 0 hts gX4_meet_X3_firstWrongPair rfl rfl rfl (by decide +kernel) ⟨by decide, by decide⟩) (zpreV hK hPc (va_recv hK.1 hPc (ci := 3) (q0 := 0) rfl rfl)) rfl rfl hl.1 rfl (lv_room (Nat.le_of_ble_eq_true rfl)) dX4_meet_4 ⟨by decide, by decide⟩) (fun r4 h4 => ?_)
  subst h4
  refine lv_istore_n (lv' := [(3, .int (enc (wv vm vn))), (0, .ref x), (1, .int (nI b)), (2, .int (nI w))]) hx hb dX4_meet_7 rfl hl (by decide) rfl (fun ls hl => ?_)
  refine lv_iload_n hx hb dX4_meet_8 rfl (lv_at hl 3 rfl) ?_
  refine lv_iconst (v := (nI 1)) hx hb dX4_meet_9 (by decide) ?_
  refine n_icmp_ne (a := w) (b := 1) (tgt := 15) hx hb (by omega) (by omega) dX4_meet_10 (by decide) (fun c10 => ?_) (fun c10 => ?_)
  · refine lv_iload_n hx hb dX4_meet_15 rfl (lv_at hl 0 rfl) ?_
    refine lv_bipush (v := (-9)) hx hb dX4_meet_16 (by decide) ?_
    refine lv_icmp_eq (tgt := 26) hx hb dX4_meet_18 (by decide) (fun c18 => ?_) (fun c18 => ?_)
    · refine lv_aload_n hx hb dX4_meet_26 rfl (lv_at hl 1 rfl) ?_
      refine va_get (D := g.1) (ci := 4) (v := .ref vo) (C := RX4) (T := TX4) (N := 6) hx hb hts (fun _ h => (List.mem_cons_of_mem _ (List.mem_append_left _ (List.mem_append_left _ (List.mem_append_right _ h))))) hown hK.1 hP 0 rfl rfl 2 (by decide) (hts _ (List.mem_of_getElem? (i := 1) rfl)) (fun _ h9 => h9) rfl dX4_meet_27 ?_
      refine lv_aload_n hx hb dX4_meet_30 rfl (lv_at hl 1 rfl) ?_
      refine va_get (D := g.1) (ci := 4) (v := .ref co) (C := RX4) (T := TX4) (N := 6) hx hb hts (fun _ h => (List.mem_cons_of_mem _ (List.mem_append_left _ (List.mem_append_left _ (List.mem_append_right _ h))))) hown hK.1 hP 0 rfl rfl 1 (by decide) (hts _ (List.mem_of_getElem? (i := 2) rfl)) (fun _ h9 => h9) rfl dX4_meet_31 ?_
      refine lv_iload_n hx hb dX4_meet_34 rfl (lv_at hl 2 rfl) ?_
      have hPc : PP g (wVC g vo vpa vma co ck ch cl vn vp vm np sl kd hg lk) _ := (P_sub (w := wVC g vo vpa vma co ck ch cl vn vp vm np sl kd hg lk) hP [5, 6, 7, 1, 2, 3, 4] rfl)
      refine zcallR (va_runV (As := [.ref co, .int (nI b)]) (rest := []) (b := vo) S0 (c_X3_takenBy l g vo vpa vma co ck ch cl vn vp vm np sl kd hg lk b pp mm hnp hsl hkd hhg hvn (by omega) hvp hvm) (cwV 2 hts gX4_meet_X3_takenBy rfl rfl rfl (by decide +kernel) ⟨by decide, by decide⟩) (zpreV hK hPc (va_recv hK.1 hPc (ci := 3) (q0 := 0) rfl rfl)) rfl rfl hl.1 rfl (lv_room (Nat.le_of_ble_eq_true rfl)) dX4_meet_35 ⟨by decide, by decide⟩) (fun r35 h35 => ?_)
      subst h35
      have hb20 := bset20 (fun k => b01 (fset np sl kd hg (pp k) (mm k) &&& b = 0)) hvn
      refine lv_istore (lv' := [(4, .int (nI (bset (fun k => b01 (fset np sl kd hg (pp k) (mm k) &&& b = 0)) vn))), (3, .int (enc (wv vm vn))), (0, .ref x), (1, .int (nI b)), (2, .int (nI w))]) hx hb dX4_meet_38 hl (by decide) rfl (fun ls hl => ?_)
      refine lv_iload_n hx hb dX4_meet_40 rfl (lv_at hl 4 rfl) ?_
      by_cases c41_0 : w = 0
      · refine ztopI (nI 0) (by rw [c41_0]) ?_
        refine lv_tableIn (off := 31) (tgt := 72) hx hb dX4_meet_41 (by decide) (by decide) (by rfl) (by decide) ?_
        refine lv_aload_n hx hb dX4_meet_72 rfl (lv_at hl 2 rfl) ?_
        refine va_get (D := g.1) (ci := 4) (v := .ref vo) (C := RX4) (T := TX4) (N := 6) hx hb hts (fun _ h => (List.mem_cons_of_mem _ (List.mem_append_left _ (List.mem_append_left _ (List.mem_append_right _ h))))) hown hK.1 hP 0 rfl rfl 2 (by decide) (hts _ (List.mem_of_getElem? (i := 1) rfl)) (fun _ h9 => h9) rfl dX4_meet_73 ?_
        have hPc : PP g (wV g vo vpa vma vn vp vm) _ := (P_sub (w := wV g vo vpa vma vn vp vm) hP [5, 6, 7] rfl)
        refine zcallR (va_runV (As := []) (rest := []) (b := vo) S0 (c_X3_howMany l g vo vpa vma vn vp vm) (cwV 0 hts gX4_meet_X3_howMany rfl rfl rfl (by decide +kernel) ⟨by decide, by decide⟩) (zpreV hK hPc (va_recv hK.1 hPc (ci := 3) (q0 := 0) rfl rfl)) rfl rfl hl.1 rfl (lv_room (Nat.le_of_ble_eq_true rfl)) dX4_meet_76 ⟨by decide, by decide⟩) (fun r76 h76 => ?_)
        subst h76
        refine lv_iload hx hb dX4_meet_79 (lv_at hl 0 rfl) ?_
        refine zcallR (va_runS (As := [.int (nI (bset (fun k => b01 (fset np sl kd hg (pp k) (mm k) &&& b = 0)) vn))]) (rest := [.int (nI vn)]) S0 (c_bitCount l g (bset (fun k => b01 (fset np sl kd hg (pp k) (mm k) &&& b = 0)) vn) hb20) (va_cwS 1 hts gX4_meet_J6_bitCount_0f7a4 rfl rfl rfl (by decide +kernel) ⟨by decide, by decide⟩) (zpreS hK (P_nil _)) rfl rfl hl.1 rfl (lv_room (Nat.le_of_ble_eq_true rfl)) dX4_meet_81 ⟨by decide, by decide⟩) (fun r81 h81 => ?_)
        subst h81
        have f1 := pc_32 (bset (fun k => b01 (fset np sl kd hg (pp k) (mm k) &&& b = 0)) vn)
        refine n_isub (a := vn) (b := (pc (bset (fun k => b01 (fset np sl kd hg (pp k) (mm k) &&& b = 0)) vn))) hx hb (pc_le (bset_lt _ _)) dX4_meet_84 ?_
        exact zretI hx hb hr hlocks rfl (by rw [sp_meet, if_neg c10, if_neg (c := wv vm vn ≠ none) (fun z => z ((wv_9 hvn).mp c18)), if_pos c41_0, pc_bset (f := (fun k => b01 (fset np sl kd hg (pp k) (mm k) &&& b = 0))) (fun k => b01_le _) (by omega)]) dX4_meet_85
      by_cases c41_1 : w = 1
      · exact absurd c41_1 c10
      by_cases c41_2 : w = 2
      · refine ztopI (nI 2) (by rw [c41_2]) ?_
        refine lv_tableIn (off := 45) (tgt := 86) hx hb dX4_meet_41 (by decide) (by decide) (by rfl) (by decide) ?_
        refine lv_aload_n hx hb dX4_meet_86 rfl (lv_at hl 2 rfl) ?_
        refine va_get (D := g.1) (ci := 4) (v := .ref vo) (C := RX4) (T := TX4) (N := 6) hx hb hts (fun _ h => (List.mem_cons_of_mem _ (List.mem_append_left _ (List.mem_append_left _ (List.mem_append_right _ h))))) hown hK.1 hP 0 rfl rfl 2 (by decide) (hts _ (List.mem_of_getElem? (i := 1) rfl)) (fun _ h9 => h9) rfl dX4_meet_87 ?_
        refine lv_iload hx hb dX4_meet_90 (lv_at hl 0 rfl) ?_
        have hPc : PP g (wV g vo vpa vma vn vp vm) _ := (P_sub (w := wV g vo vpa vma vn vp vm) hP [5, 6, 7] rfl)
        refine zcallR (va_runV (As := [.int (nI (bset (fun k => b01 (fset np sl kd hg (pp k) (mm k) &&& b = 0)) vn))]) (rest := []) (b := vo) S0 (c_X3_firstOf l g vo vpa vma vn vp vm (bset (fun k => b01 (fset np sl kd hg (pp k) (mm k) &&& b = 0)) vn) hvn hb20) (cwV 1 hts gX4_meet_X3_firstOf rfl rfl rfl (by decide +kernel) ⟨by decide, by decide⟩) (zpreV hK hPc (va_recv hK.1 hPc (ci := 3) (q0 := 0) rfl rfl)) rfl rfl hl.1 rfl (lv_room (Nat.le_of_ble_eq_true rfl)) dX4_meet_92 ⟨by decide, by decide⟩) (fun r92 h92 => ?_)
        subst h92
        exact zretI hx hb hr hlocks rfl (by rw [sp_meet, if_neg c10, if_neg (c := wv vm vn ≠ none) (fun z => z ((wv_9 hvn).mp c18)), if_neg c41_0, if_pos c41_2, fo_bset (f := (fun k => b01 (fset np sl kd hg (pp k) (mm k) &&& b = 0))) (fun k => b01_le _) vn vn (Nat.le_refl _)]) dX4_meet_95
      by_cases c41_3 : w = 3
      · refine ztopI (nI 3) (by rw [c41_3]) ?_
        refine lv_tableIn (off := 55) (tgt := 96) hx hb dX4_meet_41 (by decide) (by decide) (by rfl) (by decide) ?_
        refine lv_iload hx hb dX4_meet_96 (lv_at hl 0 rfl) ?_
        refine lv_aload_n hx hb dX4_meet_98 rfl (lv_at hl 2 rfl) ?_
        refine va_get (D := g.1) (ci := 4) (v := .ref vo) (C := RX4) (T := TX4) (N := 6) hx hb hts (fun _ h => (List.mem_cons_of_mem _ (List.mem_append_left _ (List.mem_append_left _ (List.mem_append_right _ h))))) hown hK.1 hP 0 rfl rfl 2 (by decide) (hts _ (List.mem_of_getElem? (i := 1) rfl)) (fun _ h9 => h9) rfl dX4_meet_99 ?_
        refine lv_aload_n hx hb dX4_meet_102 rfl (lv_at hl 2 rfl) ?_
        refine va_get (D := g.1) (ci := 4) (v := .ref co) (C := RX4) (T := TX4) (N := 6) hx hb hts (fun _ h => (List.mem_cons_of_mem _ (List.mem_append_left _ (List.mem_append_left _ (List.mem_append_right _ h))))) hown hK.1 hP 0 rfl rfl 1 (by decide) (hts _ (List.mem_of_getElem? (i := 2) rfl)) (fun _ h9 => h9) rfl dX4_meet_103 ?_
        have hPc : PP g (wVC g vo vpa vma co ck ch cl vn vp vm np sl kd hg lk) _ := (P_sub (w := wVC g vo vpa vma co ck ch cl vn vp vm np sl kd hg lk) hP [5, 6, 7, 1, 2, 3, 4] rfl)
        refine zcallR (va_runV (As := [.ref co]) (rest := [.int (nI (bset (fun k => b01 (fset np sl kd hg (pp k) (mm k) &&& b = 0)) vn))]) (b := vo) S0 (c_X3_goodOnes l g vo vpa vma co ck ch cl vn vp vm np sl kd hg lk pp mm hnp hsl hkd hhg hvn hvp hvm) (cwV 1 hts gX4_meet_X3_goodOnes rfl rfl rfl (by decide +kernel) ⟨by decide, by decide⟩) (zpreV hK hPc (va_recv hK.1 hPc (ci := 3) (q0 := 0) rfl rfl)) rfl rfl hl.1 rfl (lv_room (Nat.le_of_ble_eq_true rfl)) dX4_meet_106 ⟨by decide, by decide⟩) (fun r106 h106 => ?_)
        subst h106
        refine n_iand (a := (bset (fun k => b01 (fset np sl kd hg (pp k) (mm k) &&& b = 0)) vn)) (b := (bset (fun k => fitb sl kd hg (pp k) (pp k) (mm k)) vn)) hx hb dX4_meet_109 ?_
        refine zcallR (va_runS (As := [.int (nI ((bset (fun k => b01 (fset np sl kd hg (pp k) (mm k) &&& b = 0)) vn) &&& (bset (fun k => fitb sl kd hg (pp k) (pp k) (mm k)) vn)))]) (rest := []) S0 (c_bitCount l g ((bset (fun k => b01 (fset np sl kd hg (pp k) (mm k) &&& b = 0)) vn) &&& (bset (fun k => fitb sl kd hg (pp k) (pp k) (mm k)) vn)) (and_lt' hb20)) (va_cwS 1 hts gX4_meet_J6_bitCount_0f7a4 rfl rfl rfl (by decide +kernel) ⟨by decide, by decide⟩) (zpreS hK (P_nil _)) rfl rfl hl.1 rfl (lv_room (Nat.le_of_ble_eq_true rfl)) dX4_meet_110 ⟨by decide, by decide⟩) (fun r110 h110 => ?_)
        subst h110
        have f2 := pc_32 ((bset (fun k => b01 (fset np sl kd hg (pp k) (mm k) &&& b = 0)) vn) &&& (bset (fun k => fitb sl kd hg (pp k) (pp k) (mm k)) vn))
        exact zretI hx hb hr hlocks rfl (by rw [sp_meet, if_neg c10, if_neg (c := wv vm vn ≠ none) (fun z => z ((wv_9 hvn).mp c18)), if_neg c41_0, if_neg c41_2, if_pos c41_3, bset_and (f := (fun k => b01 (fset np sl kd hg (pp k) (mm k) &&& b = 0))) (g := gdb sl kd hg pp mm) (fun k => b01_le _) (fun k => b01_le _), pc_bset (f := fun k => tkb np sl kd hg b pp mm k * gdb sl kd hg pp mm k) (fun k => mul01 (b01_le _) (b01_le _)) (by omega)]) dX4_meet_113
      refine lv_tableOut (tgt := 114) hx hb dX4_meet_41 (sw_out4 (nI_neI (by omega) (by decide) c41_0) (nI_neI (by omega) (by decide) c41_1) (nI_neI (by omega) (by decide) c41_2) (nI_neI (by omega) (by decide) c41_3)) (by decide) ?_
      refine lv_aload_n hx hb dX4_meet_114 rfl (lv_at hl 2 rfl) ?_
      refine lv_iload hx hb dX4_meet_115 (lv_at hl 0 rfl) ?_
      refine lv_iload_n hx hb dX4_meet_117 rfl (lv_at hl 4 rfl) ?_
      refine lv_bipush (v := (nI 10)) hx hb dX4_meet_118 (by decide) ?_
      refine n_isub (a := w) (b := 10) hx hb (by omega) dX4_meet_120 ?_
      have hPc : PP g (wXVC g x sh co vo re ck ch cl vpa vma tr ft np sl kd hg lk vn vp vm) _ := hP
      refine zcallR (va_runV (As := [.int (nI (bset (fun k => b01 (fset np sl kd hg (pp k) (mm k) &&& b = 0)) vn)), .int (nI (w - 10))]) (rest := []) (b := x) S0 (c_X4_howOften l g x sh co vo re ck ch cl vpa vma tr ft np sl kd hg lk vn vp vm (bset (fun k => b01 (fset np sl kd hg (pp k) (mm k) &&& b = 0)) vn) (w - 10) pp hnp hvn hb20 (by omega) hvq) (cwV 2 hts gX4_meet_X4_howOften rfl rfl rfl (by decide +kernel) ⟨by decide, by decide⟩) (zpreV hK hPc (va_recv hK.1 hPc (ci := 4) (q0 := 0) rfl rfl)) rfl rfl hl.1 rfl (lv_room (Nat.le_of_ble_eq_true rfl)) dX4_meet_121 ⟨by decide, by decide⟩) (fun r121 h121 => ?_)
      subst h121
      exact zretI hx hb hr hlocks rfl (by rw [sp_meet, if_neg c10, if_neg (c := wv vm vn ≠ none) (fun z => z ((wv_9 hvn).mp c18)), if_neg c41_0, if_neg c41_2, if_neg c41_3, bset_and (f := (fun k => b01 (fset np sl kd hg (pp k) (mm k) &&& b = 0))) (g := fun k => b01 (pp k = w - 10)) (fun k => b01_le _) (fun k => b01_le _), pc_bset (f := fun k => tkb np sl kd hg b pp mm k * b01 (pp k = w - 10)) (fun k => mul01 (b01_le _) (b01_le _)) (by omega)]) dX4_meet_124
    · refine lv_bipush (v := (-100)) hx hb dX4_meet_21 (by decide) ?_
      refine lv_iload_n hx hb dX4_meet_23 rfl (lv_at hl 0 rfl) ?_
      refine lv_isub hx hb dX4_meet_24 ?_
      exact zretI hx hb hr hlocks rfl (by rw [sp_meet, if_neg c10, if_pos (fun z => c18 ((wv_9 hvn).mpr z))]) dX4_meet_25
  · refine lv_iload_n hx hb dX4_meet_13 rfl (lv_at hl 0 rfl) ?_
    exact zretI hx hb hr hlocks rfl (by rw [sp_meet, if_pos c10]) dX4_meet_14
