theorem rng_gt {n : Nat} (hn : n + 1 < 2 ^ 31) {v : Int32} (h : nI n < v) : ¬ isP (n + 1) v := fun z => by
  obtain ⟨j, h1, rfl⟩ := nI_btl (n := n + 1) hn z.1 z.2
  have := (nI_ltI (by omega) (by omega)).mp h
  omega
abbrev wXo (g : Gx) (x sh co vo re : Nat) (tr : Int32) (ft : Nat) : va_W := [(x, .inr (4, [.ref sh, .ref co, .ref vo, .ref re, .int tr, .int (nI ft)]))]
abbrev wXC (g : Gx) (x sh co vo re ck ch cl : Nat) (tr : Int32) (ft np sl : Nat) (kd hg lk : Nat → Nat) : va_W := wXo g x sh co vo re tr ft ++ wC g co ck ch cl np sl kd hg lk
abbrev wXVC (g : Gx) (x sh co vo re ck ch cl vpa vma : Nat) (tr : Int32) (ft np sl : Nat) (kd hg lk : Nat → Nat) (vn : Nat) (vp vm : Nat → Int32) : va_W := wXo g x sh co vo re tr ft ++ wC g co ck ch cl np sl kd hg lk ++ wV g vo vpa vma vn vp vm
abbrev wX (g : Gx) (x : Nat) (sh : Nat) (co : Nat) (ck : Nat) (ch : Nat) (cl : Nat) (vo : Nat) (vpa : Nat) (vma : Nat) (re : Nat) (rua : Nat) (rla : Nat) (rma : Nat) (rda : Nat) (sad : Nat → Nat) (cad : Nat → Nat) (tr : Int32) (ft : Nat) (np : Nat) (sl : Nat) (kd : Nat → Nat) (hg : Nat → Nat) (lk : Nat → Nat) (vn : Nat) (vp : Nat → Int32) (vm : Nat → Int32) (nr : Nat) (ru : Nat → Nat) (rl : Nat → Nat) (rm : Nat → Nat) (rd : Nat → Nat) (lane : Nat → Nat) (ml : Nat → Nat) (cel : Nat → Nat → Int32) : va_W := wXo g x sh co vo re tr ft ++ [(sh, .inl (gS g, 4, .inr (.inr (.inr (.inr (fun k => some (sad k)))))))] ++ wC g co ck ch cl np sl kd hg lk ++ wV g vo vpa vma vn vp vm ++ wR g re rua rla rma rda nr ru rl rm rd ++ wS g (sad 0) (cad 0) (lC (lane 0)) (ln lane ml 0) (cel 0) ++ wS g (sad 1) (cad 1) (lC (lane 1)) (ln lane ml 1) (cel 1) ++ wS g (sad 2) (cad 2) (lC (lane 2)) (ln lane ml 2) (cel 2) ++ wS g (sad 3) (cad 3) (lC (lane 3)) (ln lane ml 3) (cel 3)
theorem sh_pl {g : Gx} {x : Nat} {sh : Nat} {co : Nat} {ck : Nat} {ch : Nat} {cl : Nat} {vo : Nat} {vpa : Nat} {vma : Nat} {re : Nat} {rua : Nat} {rla : Nat} {rma : Nat} {rda : Nat} {sad : Nat → Nat} {cad : Nat → Nat} {tr : Int32} {ft : Nat} {np : Nat} {sl : Nat} {kd : Nat → Nat} {hg : Nat → Nat} {lk : Nat → Nat} {vn : Nat} {vp : Nat → Int32} {vm : Nat → Int32} {nr : Nat} {ru : Nat → Nat} {rl : Nat → Nat} {rm : Nat → Nat} {rd : Nat → Nat} {lane : Nat → Nat} {ml : Nat → Nat} {cel : Nat → Nat → Int32} {k : Nat} (hk : k < 4) : [14 + 2 * k, 15 + 2 * k].map (fun i => (wX g x sh co ck ch cl vo vpa vma re rua rla rma rda sad cad tr ft np sl kd hg lk vn vp vm nr ru rl rm rd lane ml cel)[i]?) = (wS g (sad k) (cad k) (lC (lane k)) (ln lane ml k) (cel k)).map some := by
  rcases (show k = 0 ∨ k = 1 ∨ k = 2 ∨ k = 3 by omega) with rfl | rfl | rfl | rfl <;> rfl
theorem sh_nd {k : Nat} (hk : k < 4) : va_nd [14 + 2 * k, 15 + 2 * k] = true := by
  rcases (show k = 0 ∨ k = 1 ∨ k = 2 ∨ k = 3 by omega) with rfl | rfl | rfl | rfl <;> decide
theorem sh_set {g : Gx} {x : Nat} {sh : Nat} {co : Nat} {ck : Nat} {ch : Nat} {cl : Nat} {vo : Nat} {vpa : Nat} {vma : Nat} {re : Nat} {rua : Nat} {rla : Nat} {rma : Nat} {rda : Nat} {sad : Nat → Nat} {cad : Nat → Nat} {tr : Int32} {ft : Nat} {np : Nat} {sl : Nat} {kd : Nat → Nat} {hg : Nat → Nat} {lk : Nat → Nat} {vn : Nat} {vp : Nat → Int32} {vm : Nat → Int32} {nr : Nat} {ru : Nat → Nat} {rl : Nat → Nat} {rm : Nat → Nat} {rd : Nat → Nat} {lane : Nat → Nat} {ml : Nat → Nat} {cel : Nat → Nat → Int32} {k : Nat} (hk : k < 4) {la' : Int32} {le' : Nat} {ce' : Nat → Int32} (lane' ml' : Nat → Nat) (cel' : Nat → Nat → Int32) (h1 : lC (lane' k) = la') (h2 : ln lane' ml' k = le') (h3 : cel' k = ce') (ho : ∀ j, j ≠ k → lane' j = lane j ∧ ml' j = ml j ∧ cel' j = cel j) : setAll (wX g x sh co ck ch cl vo vpa vma re rua rla rma rda sad cad tr ft np sl kd hg lk vn vp vm nr ru rl rm rd lane ml cel) [14 + 2 * k, 15 + 2 * k] (wS g (sad k) (cad k) la' le' ce') = wX g x sh co ck ch cl vo vpa vma re rua rla rma rda sad cad tr ft np sl kd hg lk vn vp vm nr ru rl rm rd lane' ml' cel' := by
  subst h1; subst h2; subst h3
  have hq : ∀ j, j ≠ k → lC (lane' j) = lC (lane j) ∧ ln lane' ml' j = ln lane ml j ∧ cel' j = cel j := fun j hj => by
    obtain ⟨a, b, c⟩ := ho j hj
    exact ⟨by rw [a], by unfold ln; rw [a, b], c⟩
  rcases (show k = 0 ∨ k = 1 ∨ k = 2 ∨ k = 3 by omega) with rfl | rfl | rfl | rfl
  · obtain ⟨a1, a2, a3⟩ := hq 1 (by decide); obtain ⟨b1, b2, b3⟩ := hq 2 (by decide); obtain ⟨c1, c2, c3⟩ := hq 3 (by decide)
    simp only [wX]; rw [a1, a2, a3, b1, b2, b3, c1, c2, c3]; rfl
  · obtain ⟨a1, a2, a3⟩ := hq 0 (by decide); obtain ⟨b1, b2, b3⟩ := hq 2 (by decide); obtain ⟨c1, c2, c3⟩ := hq 3 (by decide)
    simp only [wX]; rw [a1, a2, a3, b1, b2, b3, c1, c2, c3]; rfl
  · obtain ⟨a1, a2, a3⟩ := hq 0 (by decide); obtain ⟨b1, b2, b3⟩ := hq 1 (by decide); obtain ⟨c1, c2, c3⟩ := hq 3 (by decide)
    simp only [wX]; rw [a1, a2, a3, b1, b2, b3, c1, c2, c3]; rfl
  · obtain ⟨a1, a2, a3⟩ := hq 0 (by decide); obtain ⟨b1, b2, b3⟩ := hq 1 (by decide); obtain ⟨c1, c2, c3⟩ := hq 2 (by decide)
    simp only [wX]; rw [a1, a2, a3, b1, b2, b3, c1, c2, c3]; rfl
theorem ad_wXo {g : Gx} {x : Nat} {sh : Nat} {co : Nat} {vo : Nat} {re : Nat} {tr : Int32} {ft : Nat} : (wXo g x sh co vo re tr ft).map (fun x => x.1) = [x] := rfl
theorem lz_wXo {g : Gx} {x : Nat} {sh : Nat} {co : Nat} {vo : Nat} {re : Nat} {tr : Int32} {ft : Nat} : (wXo g x sh co vo re tr ft).length = 1 := rfl
theorem ad_wXC {g : Gx} {x : Nat} {sh : Nat} {co : Nat} {vo : Nat} {re : Nat} {ck : Nat} {ch : Nat} {cl : Nat} {tr : Int32} {ft : Nat} {np : Nat} {sl : Nat} {kd : Nat → Nat} {hg : Nat → Nat} {lk : Nat → Nat} : (wXC g x sh co vo re ck ch cl tr ft np sl kd hg lk).map (fun x => x.1) = [x, co, ck, ch, cl] := rfl
theorem lz_wXC {g : Gx} {x : Nat} {sh : Nat} {co : Nat} {vo : Nat} {re : Nat} {ck : Nat} {ch : Nat} {cl : Nat} {tr : Int32} {ft : Nat} {np : Nat} {sl : Nat} {kd : Nat → Nat} {hg : Nat → Nat} {lk : Nat → Nat} : (wXC g x sh co vo re ck ch cl tr ft np sl kd hg lk).length = 5 := rfl
theorem ad_wXVC {g : Gx} {x : Nat} {sh : Nat} {co : Nat} {vo : Nat} {re : Nat} {ck : Nat} {ch : Nat} {cl : Nat} {vpa : Nat} {vma : Nat} {tr : Int32} {ft : Nat} {np : Nat} {sl : Nat} {kd : Nat → Nat} {hg : Nat → Nat} {lk : Nat → Nat} {vn : Nat} {vp : Nat → Int32} {vm : Nat → Int32} : (wXVC g x sh co vo re ck ch cl vpa vma tr ft np sl kd hg lk vn vp vm).map (fun x => x.1) = [x, co, ck, ch, cl, vo, vpa, vma] := rfl
theorem lz_wXVC {g : Gx} {x : Nat} {sh : Nat} {co : Nat} {vo : Nat} {re : Nat} {ck : Nat} {ch : Nat} {cl : Nat} {vpa : Nat} {vma : Nat} {tr : Int32} {ft : Nat} {np : Nat} {sl : Nat} {kd : Nat → Nat} {hg : Nat → Nat} {lk : Nat → Nat} {vn : Nat} {vp : Nat → Int32} {vm : Nat → Int32} : (wXVC g x sh co vo re ck ch cl vpa vma tr ft np sl kd hg lk vn vp vm).length = 8 := rfl
theorem ad_wX {g : Gx} {x : Nat} {sh : Nat} {co : Nat} {ck : Nat} {ch : Nat} {cl : Nat} {vo : Nat} {vpa : Nat} {vma : Nat} {re : Nat} {rua : Nat} {rla : Nat} {rma : Nat} {rda : Nat} {sad : Nat → Nat} {cad : Nat → Nat} {tr : Int32} {ft : Nat} {np : Nat} {sl : Nat} {kd : Nat → Nat} {hg : Nat → Nat} {lk : Nat → Nat} {vn : Nat} {vp : Nat → Int32} {vm : Nat → Int32} {nr : Nat} {ru : Nat → Nat} {rl : Nat → Nat} {rm : Nat → Nat} {rd : Nat → Nat} {lane : Nat → Nat} {ml : Nat → Nat} {cel : Nat → Nat → Int32} : (wX g x sh co ck ch cl vo vpa vma re rua rla rma rda sad cad tr ft np sl kd hg lk vn vp vm nr ru rl rm rd lane ml cel).map (fun x => x.1) = [x, sh, co, ck, ch, cl, vo, vpa, vma, re, rua, rla, rma, rda, sad 0, cad 0, sad 1, cad 1, sad 2, cad 2, sad 3, cad 3] := rfl
theorem lz_wX {g : Gx} {x : Nat} {sh : Nat} {co : Nat} {ck : Nat} {ch : Nat} {cl : Nat} {vo : Nat} {vpa : Nat} {vma : Nat} {re : Nat} {rua : Nat} {rla : Nat} {rma : Nat} {rda : Nat} {sad : Nat → Nat} {cad : Nat → Nat} {tr : Int32} {ft : Nat} {np : Nat} {sl : Nat} {kd : Nat → Nat} {hg : Nat → Nat} {lk : Nat → Nat} {vn : Nat} {vp : Nat → Int32} {vm : Nat → Int32} {nr : Nat} {ru : Nat → Nat} {rl : Nat → Nat} {rm : Nat → Nat} {rd : Nat → Nat} {lane : Nat → Nat} {ml : Nat → Nat} {cel : Nat → Nat → Int32} : (wX g x sh co ck ch cl vo vpa vma re rua rla rma rda sad cad tr ft np sl kd hg lk vn vp vm nr ru rl rm rd lane ml cel).length = 22 := rfl
set_option maxHeartbeats 4000000 in
set_option maxRecDepth 100000 in
theorem c_X4_within_r0 (l : Launch) (g : Gx) (v : Int32) (n : Nat) (hn : n + 1 < 2 ^ 31) : Met l yX4_within wsX4_within ({ frames := 0, cells := 0, slots := 0, locals := 0 } : Room) (PcR g [.int v, .int (nI 0), .int (nI n)] (([] : va_W))) (vp_Si (fun r => (∃ w, w < n + 1 ∧ v = nI w ∧ r = nI 1) ∨ (¬ isP (n + 1) v ∧ r = nI 0))) 0 0 (fun _ => False) := by
  refine zenterR (cc := cX4_within) (maxL := 3) (ret := (some .boolean)) (by decide) rfl (Nat.le_of_ble_eq_true rfl) ?_
  intro P E s mt below meth cd ls hx hb hml hown hts hr hlocks hP hK hl
  have hl : lv_has ls 3 [(0, .int v), (1, .int (nI 0)), (2, .int (nI n))] := hl
  have S0 : CallFix P mt cd cX4_within 3 s [.int v, .int (nI 0), .int (nI n)].toArray wsX4_within RX4 := ⟨hx, hb, hml, hown, hts⟩
  refine lv_iload_n hx hb dX4_within_0 rfl (lv_at hl 0 rfl) ?_
  refine lv_iload_n hx hb dX4_within_1 rfl (lv_at hl 1 rfl) ?_
  refine lv_icmp_lt (tgt := 14) hx hb dX4_within_2 (by decide) (fun c2 => ?_) (fun c2 => ?_)
  · refine lv_iconst (v := (nI 0)) hx hb dX4_within_14 (by decide) ?_
    exact zretI hx hb hr hlocks rfl (Or.inr ⟨fun z => z.1 (by rw [nI_0] at c2; exact c2), rfl⟩) dX4_within_15
  · refine lv_iload_n hx hb dX4_within_5 rfl (lv_at hl 0 rfl) ?_
    refine lv_iload_n hx hb dX4_within_6 rfl (lv_at hl 2 rfl) ?_
    refine lv_icmp_gt (tgt := 14) hx hb dX4_within_7 (by decide) (fun c7 => ?_) (fun c7 => ?_)
    · refine lv_iconst (v := (nI 0)) hx hb dX4_within_14 (by decide) ?_
      exact zretI hx hb hr hlocks rfl (Or.inr ⟨fun z => rng_gt hn c7 z, rfl⟩) dX4_within_15
    · refine lv_iconst (v := (nI 1)) hx hb dX4_within_10 (by decide) ?_
      refine lv_goto (tgt := 15) hx hb dX4_within_11 (by decide) ?_
      exact zretI hx hb hr hlocks rfl (by obtain ⟨u, h1, h2⟩ := nI_btw (n := n) (by omega) (by rw [nI_0] at c2; exact c2) (i_nlt.mp c7); exact Or.inl ⟨u, by omega, h2, rfl⟩) dX4_within_15

set_option maxHeartbeats 4000000 in
set_option maxRecDepth 100000 in
theorem c_X4_isSheet (l : Launch) (g : Gx) (v : Int32) : Met l yX4_isSheet wsX4_isSheet ({ frames := 1, cells := 0, slots := 0, locals := 22 } : Room) (PcR g [.int v] (([] : va_W))) (vp_Si (fun r => (∃ w, w < 4 ∧ v = nI w ∧ r = nI 1) ∨ (¬ isP 4 v ∧ r = nI 0))) 0 0 (fun _ => False) := by
  refine zenterR (cc := cX4_isSheet) (maxL := 1) (ret := (some .boolean)) (by decide) rfl (Nat.le_of_ble_eq_true rfl) ?_
  intro P E s mt below meth cd ls hx hb hml hown hts hr hlocks hP hK hl
  have hl : lv_has ls 1 [(0, .int v)] := hl
  have S0 : CallFix P mt cd cX4_isSheet 1 s [.int v].toArray wsX4_isSheet RX4 := ⟨hx, hb, hml, hown, hts⟩
  refine lv_iload_n hx hb dX4_isSheet_0 rfl (lv_at hl 0 rfl) ?_
  refine lv_iconst (v := (nI 0)) hx hb dX4_isSheet_1 (by decide) ?_
  refine lv_iconst (v := (nI 3)) hx hb dX4_isSheet_2 (by decide) ?_
  refine zcallR (va_runS (As := [.int v, .int (nI 0), .int (nI 3)]) (rest := []) S0 (c_X4_within l g v (nI 0) (nI 3)) (va_cwS 3 hts gX4_isSheet_X4_within rfl rfl rfl (by decide +kernel) ⟨by decide, by decide⟩) (zpreS hK (P_nil _)) rfl rfl hl.1 rfl (lv_room (Nat.le_of_ble_eq_true rfl)) dX4_isSheet_3 ⟨by decide, by decide⟩) (fun r3 h3 => ?_)
  subst h3
  exact zretI hx hb hr hlocks (nar_b (b01_le _)) (rng_post 3 (by decide) v) dX4_isSheet_6

set_option maxHeartbeats 4000000 in
set_option maxRecDepth 100000 in
theorem c_X4_isLane (l : Launch) (g : Gx) (v : Int32) : Met l yX4_isLane wsX4_isLane ({ frames := 1, cells := 0, slots := 0, locals := 22 } : Room) (PcR g [.int v] (([] : va_W))) (vp_Si (fun r => (∃ w, w < 3 ∧ v = nI w ∧ r = nI 1) ∨ (¬ isP 3 v ∧ r = nI 0))) 0 0 (fun _ => False) := by
  refine zenterR (cc := cX4_isLane) (maxL := 1) (ret := (some .boolean)) (by decide) rfl (Nat.le_of_ble_eq_true rfl) ?_
  intro P E s mt below meth cd ls hx hb hml hown hts hr hlocks hP hK hl
  have hl : lv_has ls 1 [(0, .int v)] := hl
  have S0 : CallFix P mt cd cX4_isLane 1 s [.int v].toArray wsX4_isLane RX4 := ⟨hx, hb, hml, hown, hts⟩
  refine lv_iload_n hx hb dX4_isLane_0 rfl (lv_at hl 0 rfl) ?_
  refine lv_iconst (v := (nI 0)) hx hb dX4_isLane_1 (by decide) ?_
  refine lv_iconst (v := (nI 2)) hx hb dX4_isLane_2 (by decide) ?_
  refine zcallR (va_runS (As := [.int v, .int (nI 0), .int (nI 2)]) (rest := []) S0 (c_X4_within l g v (nI 0) (nI 2)) (va_cwS 3 hts gX4_isLane_X4_within rfl rfl rfl (by decide +kernel) ⟨by decide, by decide⟩) (zpreS hK (P_nil _)) rfl rfl hl.1 rfl (lv_room (Nat.le_of_ble_eq_true rfl)) dX4_isLane_3 ⟨by decide, by decide⟩) (fun r3 h3 => ?_)
  subst h3
  exact zretI hx hb hr hlocks (nar_b (b01_le _)) (rng_post 2 (by decide) v) dX4_isLane_6

set_option maxHeartbeats 4000000 in
set_option maxRecDepth 100000 in
theorem c_X4_isPlace (l : Launch) (g : Gx) (v : Int32) : Met l yX4_isPlace wsX4_isPlace ({ frames := 1, cells := 0, slots := 0, locals := 22 } : Room) (PcR g [.int v] (([] : va_W))) (vp_Si (fun r => (∃ w, w < 3 ∧ v = nI w ∧ r = nI 1) ∨ (¬ isP 3 v ∧ r = nI 0))) 0 0 (fun _ => False) := by
  refine zenterR (cc := cX4_isPlace) (maxL := 1) (ret := (some .boolean)) (by decide) rfl (Nat.le_of_ble_eq_true rfl) ?_
  intro P E s mt below meth cd ls hx hb hml hown hts hr hlocks hP hK hl
  have hl : lv_has ls 1 [(0, .int v)] := hl
  have S0 : CallFix P mt cd cX4_isPlace 1 s [.int v].toArray wsX4_isPlace RX4 := ⟨hx, hb, hml, hown, hts⟩
  refine lv_iload_n hx hb dX4_isPlace_0 rfl (lv_at hl 0 rfl) ?_
  refine lv_iconst (v := (nI 0)) hx hb dX4_isPlace_1 (by decide) ?_
  refine lv_iconst (v := (nI 2)) hx hb dX4_isPlace_2 (by decide) ?_
  refine zcallR (va_runS (As := [.int v, .int (nI 0), .int (nI 2)]) (rest := []) S0 (c_X4_within l g v (nI 0) (nI 2)) (va_cwS 3 hts gX4_isPlace_X4_within rfl rfl rfl (by decide +kernel) ⟨by decide, by decide⟩) (zpreS hK (P_nil _)) rfl rfl hl.1 rfl (lv_room (Nat.le_of_ble_eq_true rfl)) dX4_isPlace_3 ⟨by decide, by decide⟩) (fun r3 h3 => ?_)
  subst h3
  exact zretI hx hb hr hlocks (nar_b (b01_le _)) (rng_post 2 (by decide) v) dX4_isPlace_6

set_option maxHeartbeats 4000000 in
set_option maxRecDepth 100000 in
theorem c_X4_ofPass (l : Launch) (g : Gx) (x : Nat) (sh : Nat) (co : Nat) (ck : Nat) (ch : Nat) (cl : Nat) (vo : Nat) (vpa : Nat) (vma : Nat) (re : Nat) (rua : Nat) (rla : Nat) (rma : Nat) (rda : Nat) (sad : Nat → Nat) (cad : Nat → Nat) (tr : Int32) (ft : Nat) (np : Nat) (sl : Nat) (kd : Nat → Nat) (hg : Nat → Nat) (lk : Nat → Nat) (vn : Nat) (vp : Nat → Int32) (vm : Nat → Int32) (nr : Nat) (ru : Nat → Nat) (rl : Nat → Nat) (rm : Nat → Nat) (rd : Nat → Nat) (lane : Nat → Nat) (ml : Nat → Nat) (cel : Nat → Nat → Int32) (p : Int32) (w : Int32) (hG : Gd np sl kd hg nr ru rl rm rd lane ml) : Met l yX4_ofPass wsX4_ofPass ({ frames := 2, cells := 0, slots := 0, locals := 43 } : Room) (PcR g [.ref x, .int p, .int w] (wX g x sh co ck ch cl vo vpa vma re rua rla rma rda sad cad tr ft np sl kd hg lk vn vp vm nr ru rl rm rd lane ml cel)) (vp_Si (fun r => r = sp_ofPass np kd hg p w)) 0 0 (fun _ => False) := by
  refine zenterR (cc := cX4_ofPass) (maxL := 3) (ret := (some .int)) (by decide) rfl (Nat.le_of_ble_eq_true rfl) ?_
  intro P E s mt below meth cd ls hx hb hml hown hts hr hlocks hP hK hl
  have hl : lv_has ls 3 [(0, .ref x), (1, .int p), (2, .int w)] := hl
  have S0 : CallFix P mt cd cX4_ofPass 3 s [.ref x, .int p, .int w].toArray wsX4_ofPass RX4 := ⟨hx, hb, hml, hown, hts⟩
  obtain ⟨hnp, hsl, hkd, hhg, hnr, hru, hrl, hrm, hrd, hla, hmz⟩ := hG
  refine lv_aload_n hx hb dX4_ofPass_0 rfl (lv_at hl 0 rfl) ?_
  refine va_get (D := g.1) (ci := 4) (v := .ref co) (C := RX4) (T := TX4) (N := 6) hx hb hts (fun _ h => (List.mem_cons_of_mem _ (List.mem_append_left _ (List.mem_append_right _ h)))) hown hK.1 hP 0 rfl rfl 1 (by decide) (hts _ (List.mem_of_getElem? (i := 1) rfl)) (fun _ h9 => h9) rfl dX4_ofPass_1 ?_
  refine lv_iload_n hx hb dX4_ofPass_4 rfl (lv_at hl 1 rfl) ?_
  have hPc : PP g (wC g co ck ch cl np sl kd hg lk) _ := (P_sub (w := wC g co ck ch cl np sl kd hg lk) hP [2, 3, 4, 5] rfl)
  refine zcallR (va_runV (As := [.int p]) (rest := []) (b := co) S0 (c_X0_hasPass l g co ck ch cl np sl kd hg lk p hnp) (cwV 1 hts gX4_ofPass_X0_hasPass rfl rfl rfl (by decide +kernel) ⟨by decide, by decide⟩) (zpreV hK hPc (va_recv hK.1 hPc (ci := 0) (q0 := 0) rfl rfl)) rfl rfl hl.1 rfl (lv_room (Nat.le_of_ble_eq_true rfl)) dX4_ofPass_5 ⟨by decide, by decide⟩) (fun r5 h5 => ?_)
  rcases h5 with ⟨w_5, hw_5, hv_5, rfl⟩ | ⟨hn_5, rfl⟩
  · subst hv_5
    refine lv_if_ne (tgt := 13) hx hb dX4_ofPass_8 (by decide) (fun c8 => ?_) (fun c8 => ?_)
    rotate_left
    · exact absurd c8 (by decide)
    refine lv_iload_n hx hb dX4_ofPass_13 rfl (lv_at hl 2 rfl) ?_
    refine lv_iconst (v := (nI 0)) hx hb dX4_ofPass_14 (by decide) ?_
    refine lv_iconst (v := (nI 3)) hx hb dX4_ofPass_15 (by decide) ?_
    refine zcallR (va_runS (As := [.int w, .int (nI 0), .int (nI 3)]) (rest := []) S0 (c_X4_within_r0 l g w 3 (by omega)) (va_cwS 3 hts gX4_ofPass_X4_within rfl rfl rfl (by decide +kernel) ⟨by decide, by decide⟩) (zpreS hK (P_nil _)) rfl rfl hl.1 rfl (lv_room (Nat.le_of_ble_eq_true rfl)) dX4_ofPass_16 ⟨by decide, by decide⟩) (fun r16 h16 => ?_)
    rcases h16 with ⟨w_16, hw_16, hv_16, rfl⟩ | ⟨hn_16, rfl⟩
    · subst hv_16
      refine lv_if_ne (tgt := 25) hx hb dX4_ofPass_19 (by decide) (fun c19 => ?_) (fun c19 => ?_)
      rotate_left
      · exact absurd c19 (by decide)
      refine lv_iload_n hx hb dX4_ofPass_25 rfl (lv_at hl 2 rfl) ?_
      refine n_if_ne (a := w_16) (tgt := 40) hx hb (by omega) dX4_ofPass_26 (by decide) (fun c26 => ?_) (fun c26 => ?_)
      · refine lv_aload_n hx hb dX4_ofPass_40 rfl (lv_at hl 0 rfl) ?_
        refine va_get (D := g.1) (ci := 4) (v := .ref co) (C := RX4) (T := TX4) (N := 6) hx hb hts (fun _ h => (List.mem_cons_of_mem _ (List.mem_append_left _ (List.mem_append_right _ h)))) hown hK.1 hP 0 rfl rfl 1 (by decide) (hts _ (List.mem_of_getElem? (i := 1) rfl)) (fun _ h9 => h9) rfl dX4_ofPass_41 ?_
        refine lv_iload_n hx hb dX4_ofPass_44 rfl (lv_at hl 1 rfl) ?_
        refine lv_iload_n hx hb dX4_ofPass_45 rfl (lv_at hl 2 rfl) ?_
        refine lv_iconst (v := (nI 1)) hx hb dX4_ofPass_46 (by decide) ?_
        refine n_isub (a := w_16) (b := 1) hx hb (by omega) dX4_ofPass_47 ?_
        have hPc : PP g (wC g co ck ch cl np sl kd hg lk) _ := (P_sub (w := wC g co ck ch cl np sl kd hg lk) hP [2, 3, 4, 5] rfl)
        refine zcallR (va_runV (As := [.int (nI w_5), .int (nI (w_16 - 1))]) (rest := []) (b := co) S0 (c_X0_heightOf l g co ck ch cl np sl kd hg lk w_5 (w_16 - 1) hnp (by omega) (by omega)) (cwV 2 hts gX4_ofPass_X0_heightOf rfl rfl rfl (by decide +kernel) ⟨by decide, by decide⟩) (zpreV hK hPc (va_recv hK.1 hPc (ci := 0) (q0 := 0) rfl rfl)) rfl rfl hl.1 rfl (lv_room (Nat.le_of_ble_eq_true rfl)) dX4_ofPass_48 ⟨by decide, by decide⟩) (fun r48 h48 => ?_)
        subst h48
        exact zretI hx hb hr hlocks rfl (by rw [sp_ofPass, if_pos (isP_of (by omega) hw_5), if_pos (isP_of (by omega) hw_16), if_neg (nI_neI (by omega) (by decide) c26), tN_nI (u := w_5) (by omega), tN_nI (u := w_16) (by omega)]) dX4_ofPass_51
      · refine lv_aload_n hx hb dX4_ofPass_29 rfl (lv_at hl 0 rfl) ?_
        refine va_get (D := g.1) (ci := 4) (v := .ref co) (C := RX4) (T := TX4) (N := 6) hx hb hts (fun _ h => (List.mem_cons_of_mem _ (List.mem_append_left _ (List.mem_append_right _ h)))) hown hK.1 hP 0 rfl rfl 1 (by decide) (hts _ (List.mem_of_getElem? (i := 1) rfl)) (fun _ h9 => h9) rfl dX4_ofPass_30 ?_
        refine lv_iload_n hx hb dX4_ofPass_33 rfl (lv_at hl 1 rfl) ?_
        have hPc : PP g (wC g co ck ch cl np sl kd hg lk) _ := (P_sub (w := wC g co ck ch cl np sl kd hg lk) hP [2, 3, 4, 5] rfl)
        refine zcallR (va_runV (As := [.int (nI w_5)]) (rest := []) (b := co) S0 (c_X0_kindOf l g co ck ch cl np sl kd hg lk w_5 hnp (by omega)) (cwV 1 hts gX4_ofPass_X0_kindOf rfl rfl rfl (by decide +kernel) ⟨by decide, by decide⟩) (zpreV hK hPc (va_recv hK.1 hPc (ci := 0) (q0 := 0) rfl rfl)) rfl rfl hl.1 rfl (lv_room (Nat.le_of_ble_eq_true rfl)) dX4_ofPass_34 ⟨by decide, by decide⟩) (fun r34 h34 => ?_)
        subst h34
        refine lv_goto (tgt := 51) hx hb dX4_ofPass_37 (by decide) ?_
        exact zretI hx hb hr hlocks rfl (by rw [sp_ofPass, if_pos (isP_of (by omega) hw_5), if_pos (isP_of (by omega) hw_16), if_pos (by rw [c26]), tN_nI (u := w_5) (by omega)]) dX4_ofPass_51
    · refine lv_if_ne (tgt := 25) hx hb dX4_ofPass_19 (by decide) (fun c19 => ?_) (fun c19 => ?_)
      · exact absurd c19 (by decide)
      refine lv_bipush (v := (-2)) hx hb dX4_ofPass_22 (by decide) ?_
      exact zretI hx hb hr hlocks rfl (by rw [sp_ofPass, if_pos (isP_of (by omega) hw_5), if_neg hn_16]) dX4_ofPass_24
  · refine lv_if_ne (tgt := 13) hx hb dX4_ofPass_8 (by decide) (fun c8 => ?_) (fun c8 => ?_)
    · exact absurd c8 (by decide)
    refine lv_iconst (v := (-1)) hx hb dX4_ofPass_11 (by decide) ?_
    exact zretI hx hb hr hlocks rfl (by rw [sp_ofPass, if_neg hn_5]) dX4_ofPass_12

set_option maxHeartbeats 4000000 in
set_option maxRecDepth 100000 in
theorem c_X4_trim (l : Launch) (g : Gx) (x : Nat) (sh : Nat) (co : Nat) (ck : Nat) (ch : Nat) (cl : Nat) (vo : Nat) (vpa : Nat) (vma : Nat) (re : Nat) (rua : Nat) (rla : Nat) (rma : Nat) (rda : Nat) (sad : Nat → Nat) (cad : Nat → Nat) (tr : Int32) (ft : Nat) (np : Nat) (sl : Nat) (kd : Nat → Nat) (hg : Nat → Nat) (lk : Nat → Nat) (vn : Nat) (vp : Nat → Int32) (vm : Nat → Int32) (nr : Nat) (ru : Nat → Nat) (rl : Nat → Nat) (rm : Nat → Nat) (rd : Nat → Nat) (lane : Nat → Nat) (ml : Nat → Nat) (cel : Nat → Nat → Int32) (p : Int32) (k : Int32) (v : Int32) (hG : Gd np sl kd hg nr ru rl rm rd lane ml) : Met l yX4_trim wsX4_trim ({ frames := 2, cells := 0, slots := 0, locals := 44 } : Room) (PcM g [.ref x, .int p, .int k, .int v] (wX g x sh co ck ch cl vo vpa vma re rua rla rma rda sad cad tr ft np sl kd hg lk vn vp vm nr ru rl rm rd lane ml cel)) (va_Qi (fun (r : Int32) (uu : Unit) => r = sp_trim np hg p k v) (fun (uu : Unit) t => PP g (wX g x sh co ck ch cl vo vpa vma re rua rla rma rda sad cad tr ft np sl kd (st_trim np hg p k v) lk vn vp vm nr ru rl rm rd lane ml cel) t.heap) (inW (wX g x sh co ck ch cl vo vpa vma re rua rla rma rda sad cad tr ft np sl kd hg lk vn vp vm nr ru rl rm rd lane ml cel))) 0 0 (inW (wX g x sh co ck ch cl vo vpa vma re rua rla rma rda sad cad tr ft np sl kd hg lk vn vp vm nr ru rl rm rd lane ml cel)) := by
  refine zenterM (cc := cX4_trim) (maxL := 5) (ret := (some .int)) (by decide) rfl (Nat.le_of_ble_eq_true rfl) ?_
  intro P E s mt below meth cd ls hx hb hml hown hts hr hlocks hP hK hD hS hl
  skip
  have hl : lv_has ls 5 [(0, .ref x), (1, .int p), (2, .int k), (3, .int v)] := hl
  have S0 : CallFix P mt cd cX4_trim 5 s [.ref x, .int p, .int k, .int v].toArray wsX4_trim RX4 := ⟨hx, hb, hml, hown, hts⟩
  obtain ⟨hnp, hsl, hkd, hhg, hnr, hru, hrl, hrm, hrd, hla, hmz⟩ := hG
  refine lv_aload_n hx hb dX4_trim_0 rfl (lv_at hl 0 rfl) ?_
  refine va_get (D := g.1) (ci := 4) (v := .ref co) (C := RX4) (T := TX4) (N := 6) hx hb hts (fun _ h => (List.mem_cons_of_mem _ (List.mem_append_left _ (List.mem_append_right _ h)))) hown hK.1 hP 0 rfl rfl 1 (by decide) (hts _ (List.mem_of_getElem? (i := 1) rfl)) (fun _ h9 => h9) rfl dX4_trim_1 ?_
  refine lv_iload_n hx hb dX4_trim_4 rfl (lv_at hl 1 rfl) ?_
  have hPc : PP g (wC g co ck ch cl np sl kd hg lk) _ := (P_sub (w := wC g co ck ch cl np sl kd hg lk) hP [2, 3, 4, 5] rfl)
  refine zcallR (va_runV (As := [.int p]) (rest := []) (b := co) S0 (c_X0_hasPass l g co ck ch cl np sl kd hg lk p hnp) (cwV 1 hts gX4_trim_X0_hasPass rfl rfl rfl (by decide +kernel) ⟨by decide, by decide⟩) (zpreV hK hPc (va_recv hK.1 hPc (ci := 0) (q0 := 0) rfl rfl)) rfl rfl hl.1 rfl (lv_room (Nat.le_of_ble_eq_true rfl)) dX4_trim_5 ⟨by decide, by decide⟩) (fun r5 h5 => ?_)
  rcases h5 with ⟨w_5, hw_5, hv_5, rfl⟩ | ⟨hn_5, rfl⟩
  · subst hv_5
    refine lv_if_ne (tgt := 13) hx hb dX4_trim_8 (by decide) (fun c8 => ?_) (fun c8 => ?_)
    rotate_left
    · exact absurd c8 (by decide)
    refine lv_iload_n hx hb dX4_trim_13 rfl (lv_at hl 2 rfl) ?_
    refine zcallR (va_runS (As := [.int k]) (rest := []) S0 (c_X4_isPlace l g k) (va_cwS 1 hts gX4_trim_X4_isPlace rfl rfl rfl (by decide +kernel) ⟨by decide, by decide⟩) (zpreS hK (P_nil _)) rfl rfl hl.1 rfl (lv_room (Nat.le_of_ble_eq_true rfl)) dX4_trim_14 ⟨by decide, by decide⟩) (fun r14 h14 => ?_)
    rcases h14 with ⟨w_14, hw_14, hv_14, rfl⟩ | ⟨hn_14, rfl⟩
    · subst hv_14
      refine lv_if_eq (tgt := 30) hx hb dX4_trim_17 (by decide) (fun c17 => ?_) (fun c17 => ?_)
      · exact absurd c17 (by decide)
      refine lv_iload_n hx hb dX4_trim_20 rfl (lv_at hl 3 rfl) ?_
      refine lv_iconst (v := (nI 0)) hx hb dX4_trim_21 (by decide) ?_
      refine lv_bipush (v := (nI 9)) hx hb dX4_trim_22 (by decide) ?_
      refine zcallR (va_runS (As := [.int v, .int (nI 0), .int (nI 9)]) (rest := []) S0 (c_X4_within_r0 l g v 9 (by omega)) (va_cwS 3 hts gX4_trim_X4_within rfl rfl rfl (by decide +kernel) ⟨by decide, by decide⟩) (zpreS hK (P_nil _)) rfl rfl hl.1 rfl (lv_room (Nat.le_of_ble_eq_true rfl)) dX4_trim_24 ⟨by decide, by decide⟩) (fun r24 h24 => ?_)
      rcases h24 with ⟨w_24, hw_24, hv_24, rfl⟩ | ⟨hn_24, rfl⟩
      · subst hv_24
        refine lv_if_ne (tgt := 33) hx hb dX4_trim_27 (by decide) (fun c27 => ?_) (fun c27 => ?_)
        rotate_left
        · exact absurd c27 (by decide)
        refine lv_aload_n hx hb dX4_trim_33 rfl (lv_at hl 0 rfl) ?_
        refine va_get (D := g.1) (ci := 4) (v := .ref co) (C := RX4) (T := TX4) (N := 6) hx hb hts (fun _ h => (List.mem_cons_of_mem _ (List.mem_append_left _ (List.mem_append_right _ h)))) hown hK.1 hP 0 rfl rfl 1 (by decide) (hts _ (List.mem_of_getElem? (i := 1) rfl)) (fun _ h9 => h9) rfl dX4_trim_34 ?_
        refine lv_iload_n hx hb dX4_trim_37 rfl (lv_at hl 1 rfl) ?_
        refine lv_iload_n hx hb dX4_trim_38 rfl (lv_at hl 2 rfl) ?_
        have hPc : PP g (wC g co ck ch cl np sl kd hg lk) _ := (P_sub (w := wC g co ck ch cl np sl kd hg lk) hP [2, 3, 4, 5] rfl)
        refine zcallR (va_runV (As := [.int (nI w_5), .int (nI w_14)]) (rest := []) (b := co) S0 (c_X0_heightOf l g co ck ch cl np sl kd hg lk w_5 w_14 hnp (by omega) (by omega)) (cwV 2 hts gX4_trim_X0_heightOf rfl rfl rfl (by decide +kernel) ⟨by decide, by decide⟩) (zpreV hK hPc (va_recv hK.1 hPc (ci := 0) (q0 := 0) rfl rfl)) rfl rfl hl.1 rfl (lv_room (Nat.le_of_ble_eq_true rfl)) dX4_trim_39 ⟨by decide, by decide⟩) (fun r39 h39 => ?_)
        subst h39
        refine lv_istore (lv' := [(4, .int (nI (hg (3 * w_5 + w_14)))), (0, .ref x), (1, .int (nI w_5)), (2, .int (nI w_14)), (3, .int (nI w_24))]) hx hb dX4_trim_42 hl (by decide) rfl (fun ls hl => ?_)
        refine lv_aload_n hx hb dX4_trim_44 rfl (lv_at hl 1 rfl) ?_
        refine va_get (D := g.1) (ci := 4) (v := .ref co) (C := RX4) (T := TX4) (N := 6) hx hb hts (fun _ h => (List.mem_cons_of_mem _ (List.mem_append_left _ (List.mem_append_right _ h)))) hown hK.1 hP 0 rfl rfl 1 (by decide) (hts _ (List.mem_of_getElem? (i := 1) rfl)) (fun _ h9 => h9) rfl dX4_trim_45 ?_
        refine lv_iload_n hx hb dX4_trim_48 rfl (lv_at hl 2 rfl) ?_
        refine lv_iload_n hx hb dX4_trim_49 rfl (lv_at hl 3 rfl) ?_
        refine lv_iload_n hx hb dX4_trim_50 rfl (lv_at hl 4 rfl) ?_
        have hPc : PP g (wC g co ck ch cl np sl kd hg lk) _ := P_sub hP [2, 3, 4, 5] rfl
        refine zcallMv (w := wC g co ck ch cl np sl kd hg lk) (va_runV (As := [.int (nI w_5), .int (nI w_14), .int (nI w_24)]) (rest := []) (b := co) S0 (c_X0_setHeight l g co ck ch cl np sl kd hg lk w_5 w_14 w_24 hnp (by omega) (by omega)) (cwV 3 hts gX4_trim_X0_setHeight rfl rfl rfl (by decide +kernel) ⟨by decide, by decide⟩) (zpreVM hK hP hD [2, 3, 4, 5] rfl (by decide) (va_recv hK.1 hPc (ci := 0) (q0 := 0) rfl rfl)) rfl rfl hl.1 rfl (lv_room (Nat.le_of_ble_eq_true rfl)) dX4_trim_51 ⟨by decide, by decide⟩) hP hD hS [2, 3, 4, 5] rfl (fun uu51 => wX g x sh co ck ch cl vo vpa vma re rua rla rma rda sad cad tr ft np sl kd (va_up hg (3 * w_5 + w_14) w_24) lk vn vp vm nr ru rl rm rd lane ml cel) (fun _ => lz_wC.trans lz_wC.symm) (fun _ => rfl) (fun _ => ad_wX.trans ad_wX.symm) (fun uu51 H locs h51 hP hD hS => ?_)
        refine lv_iload hx hb dX4_trim_54 (lv_at hl 0 rfl) ?_
        exact zretMI (w1 := fun (uu : Unit) => wX g x sh co ck ch cl vo vpa vma re rua rla rma rda sad cad tr ft np sl kd (st_trim np hg (nI w_5) (nI w_14) (nI w_24)) lk vn vp vm nr ru rl rm rd lane ml cel) () hx hb hr hlocks hS rfl (by rw [sp_trim, if_pos (isP_of (by omega) hw_5), if_pos ⟨(isP_of (by omega) hw_14), (isP_of (by omega) hw_24)⟩, tN_nI (u := w_5) (by omega), tN_nI (u := w_14) (by omega)]) (by rw [st_trim, if_pos (isP_of (by omega) hw_5), if_pos ⟨(isP_of (by omega) hw_14), (isP_of (by omega) hw_24)⟩, tN_nI (u := w_5) (by omega), tN_nI (u := w_14) (by omega), tN_nI (u := w_24) (by omega)]; exact hP) dX4_trim_56
      · refine lv_if_ne (tgt := 33) hx hb dX4_trim_27 (by decide) (fun c27 => ?_) (fun c27 => ?_)
        · exact absurd c27 (by decide)
        refine lv_bipush (v := (-2)) hx hb dX4_trim_30 (by decide) ?_
        exact zretMI (w1 := fun (uu : Unit) => wX g x sh co ck ch cl vo vpa vma re rua rla rma rda sad cad tr ft np sl kd (st_trim np hg (nI w_5) (nI w_14) v) lk vn vp vm nr ru rl rm rd lane ml cel) () hx hb hr hlocks hS rfl (by rw [sp_trim, if_pos (isP_of (by omega) hw_5), if_neg (fun z => hn_24 z.2)]) (by rw [st_trim, if_pos (isP_of (by omega) hw_5), if_neg (fun z => hn_24 z.2)]; exact hP) dX4_trim_32
    · refine lv_if_eq (tgt := 30) hx hb dX4_trim_17 (by decide) (fun c17 => ?_) (fun c17 => ?_)
      rotate_left
      · exact absurd (by decide) c17
      refine lv_bipush (v := (-2)) hx hb dX4_trim_30 (by decide) ?_
      exact zretMI (w1 := fun (uu : Unit) => wX g x sh co ck ch cl vo vpa vma re rua rla rma rda sad cad tr ft np sl kd (st_trim np hg (nI w_5) k v) lk vn vp vm nr ru rl rm rd lane ml cel) () hx hb hr hlocks hS rfl (by rw [sp_trim, if_pos (isP_of (by omega) hw_5), if_neg (fun z => hn_14 z.1)]) (by rw [st_trim, if_pos (isP_of (by omega) hw_5), if_neg (fun z => hn_14 z.1)]; exact hP) dX4_trim_32
  · refine lv_if_ne (tgt := 13) hx hb dX4_trim_8 (by decide) (fun c8 => ?_) (fun c8 => ?_)
    · exact absurd c8 (by decide)
    refine lv_iconst (v := (-1)) hx hb dX4_trim_11 (by decide) ?_
    exact zretMI (w1 := fun (uu : Unit) => wX g x sh co ck ch cl vo vpa vma re rua rla rma rda sad cad tr ft np sl kd (st_trim np hg p k v) lk vn vp vm nr ru rl rm rd lane ml cel) () hx hb hr hlocks hS rfl (by rw [sp_trim, if_neg hn_5]) (by rw [st_trim, if_neg hn_5]; exact hP) dX4_trim_12

set_option maxHeartbeats 4000000 in
set_option maxRecDepth 100000 in
theorem c_X4_slack (l : Launch) (g : Gx) (x : Nat) (sh : Nat) (co : Nat) (ck : Nat) (ch : Nat) (cl : Nat) (vo : Nat) (vpa : Nat) (vma : Nat) (re : Nat) (rua : Nat) (rla : Nat) (rma : Nat) (rda : Nat) (sad : Nat → Nat) (cad : Nat → Nat) (tr : Int32) (ft : Nat) (np : Nat) (sl : Nat) (kd : Nat → Nat) (hg : Nat → Nat) (lk : Nat → Nat) (vn : Nat) (vp : Nat → Int32) (vm : Nat → Int32) (nr : Nat) (ru : Nat → Nat) (rl : Nat → Nat) (rm : Nat → Nat) (rd : Nat → Nat) (lane : Nat → Nat) (ml : Nat → Nat) (cel : Nat → Nat → Int32) (v : Int32) (hG : Gd np sl kd hg nr ru rl rm rd lane ml) : Met l yX4_slack wsX4_slack ({ frames := 1, cells := 0, slots := 0, locals := 22 } : Room) (PcM g [.ref x, .int v] (wX g x sh co ck ch cl vo vpa vma re rua rla rma rda sad cad tr ft np sl kd hg lk vn vp vm nr ru rl rm rd lane ml cel)) (va_Qi (fun (r : Int32) (uu : Unit) => r = sp_slack np sl v) (fun (uu : Unit) t => PP g (wX g x sh co ck ch cl vo vpa vma re rua rla rma rda sad cad tr ft np (st_slack np sl v) kd hg lk vn vp vm nr ru rl rm rd lane ml cel) t.heap) (inW (wX g x sh co ck ch cl vo vpa vma re rua rla rma rda sad cad tr ft np sl kd hg lk vn vp vm nr ru rl rm rd lane ml cel))) 0 0 (inW (wX g x sh co ck ch cl vo vpa vma re rua rla rma rda sad cad tr ft np sl kd hg lk vn vp vm nr ru rl rm rd lane ml cel)) := by
  refine zenterM (cc := cX4_slack) (maxL := 3) (ret := (some .int)) (by decide) rfl (Nat.le_of_ble_eq_true rfl) ?_
  intro P E s mt below meth cd ls hx hb hml hown hts hr hlocks hP hK hD hS hl
  skip
  have hl : lv_has ls 3 [(0, .ref x), (1, .int v)] := hl
  have S0 : CallFix P mt cd cX4_slack 3 s [.ref x, .int v].toArray wsX4_slack RX4 := ⟨hx, hb, hml, hown, hts⟩
  obtain ⟨hnp, hsl, hkd, hhg, hnr, hru, hrl, hrm, hrd, hla, hmz⟩ := hG
  refine lv_iload_n hx hb dX4_slack_0 rfl (lv_at hl 1 rfl) ?_
  refine lv_iconst (v := (nI 0)) hx hb dX4_slack_1 (by decide) ?_
  refine lv_bipush (v := (nI 9)) hx hb dX4_slack_2 (by decide) ?_
  refine zcallR (va_runS (As := [.int v, .int (nI 0), .int (nI 9)]) (rest := []) S0 (c_X4_within_r0 l g v 9 (by omega)) (va_cwS 3 hts gX4_slack_X4_within rfl rfl rfl (by decide +kernel) ⟨by decide, by decide⟩) (zpreS hK (P_nil _)) rfl rfl hl.1 rfl (lv_room (Nat.le_of_ble_eq_true rfl)) dX4_slack_4 ⟨by decide, by decide⟩) (fun r4 h4 => ?_)
  rcases h4 with ⟨w_4, hw_4, hv_4, rfl⟩ | ⟨hn_4, rfl⟩
  · subst hv_4
    refine lv_if_ne (tgt := 13) hx hb dX4_slack_7 (by decide) (fun c7 => ?_) (fun c7 => ?_)
    rotate_left
    · exact absurd c7 (by decide)
    refine lv_aload_n hx hb dX4_slack_13 rfl (lv_at hl 0 rfl) ?_
    refine va_get (D := g.1) (ci := 4) (v := .ref co) (C := RX4) (T := TX4) (N := 6) hx hb hts (fun _ h => (List.mem_cons_of_mem _ (List.mem_append_left _ (List.mem_append_right _ h)))) hown hK.1 hP 0 rfl rfl 1 (by decide) (hts _ (List.mem_of_getElem? (i := 1) rfl)) (fun _ h9 => h9) rfl dX4_slack_14 ?_
    have hPc : PP g (wC g co ck ch cl np sl kd hg lk) _ := (P_sub (w := wC g co ck ch cl np sl kd hg lk) hP [2, 3, 4, 5] rfl)
    refine zcallR (va_runV (As := []) (rest := []) (b := co) S0 (c_X0_stands l g co ck ch cl np sl kd hg lk hnp) (cwV 0 hts gX4_slack_X0_stands rfl rfl rfl (by decide +kernel) ⟨by decide, by decide⟩) (zpreV hK hPc (va_recv hK.1 hPc (ci := 0) (q0 := 0) rfl rfl)) rfl rfl hl.1 rfl (lv_room (Nat.le_of_ble_eq_true rfl)) dX4_slack_17 ⟨by decide, by decide⟩) (fun r17 h17 => ?_)
    subst h17
    have hst := b01_le (0 < np)
    refine n_if_ne (a := (b01 (0 < np))) (tgt := 26) hx hb (by omega) dX4_slack_20 (by decide) (fun c20 => ?_) (fun c20 => ?_)
    · refine lv_aload_n hx hb dX4_slack_26 rfl (lv_at hl 0 rfl) ?_
      refine va_get (D := g.1) (ci := 4) (v := .ref co) (C := RX4) (T := TX4) (N := 6) hx hb hts (fun _ h => (List.mem_cons_of_mem _ (List.mem_append_left _ (List.mem_append_right _ h)))) hown hK.1 hP 0 rfl rfl 1 (by decide) (hts _ (List.mem_of_getElem? (i := 1) rfl)) (fun _ h9 => h9) rfl dX4_slack_27 ?_
      have hPc : PP g (wC g co ck ch cl np sl kd hg lk) _ := (P_sub (w := wC g co ck ch cl np sl kd hg lk) hP [2, 3, 4, 5] rfl)
      refine zcallR (va_runV (As := []) (rest := []) (b := co) S0 (c_X0_slackNow l g co ck ch cl np sl kd hg lk) (cwV 0 hts gX4_slack_X0_slackNow rfl rfl rfl (by decide +kernel) ⟨by decide, by decide⟩) (zpreV hK hPc (va_recv hK.1 hPc (ci := 0) (q0 := 0) rfl rfl)) rfl rfl hl.1 rfl (lv_room (Nat.le_of_ble_eq_true rfl)) dX4_slack_30 ⟨by decide, by decide⟩) (fun r30 h30 => ?_)
      subst h30
      refine lv_istore_n (lv' := [(2, .int (nI sl)), (0, .ref x), (1, .int (nI w_4))]) hx hb dX4_slack_33 rfl hl (by decide) rfl (fun ls hl => ?_)
      refine lv_aload_n hx hb dX4_slack_34 rfl (lv_at hl 1 rfl) ?_
      refine va_get (D := g.1) (ci := 4) (v := .ref co) (C := RX4) (T := TX4) (N := 6) hx hb hts (fun _ h => (List.mem_cons_of_mem _ (List.mem_append_left _ (List.mem_append_right _ h)))) hown hK.1 hP 0 rfl rfl 1 (by decide) (hts _ (List.mem_of_getElem? (i := 1) rfl)) (fun _ h9 => h9) rfl dX4_slack_35 ?_
      refine lv_iload_n hx hb dX4_slack_38 rfl (lv_at hl 2 rfl) ?_
      have hPc : PP g (wC g co ck ch cl np sl kd hg lk) _ := P_sub hP [2, 3, 4, 5] rfl
      refine zcallMv (w := wC g co ck ch cl np sl kd hg lk) (va_runV (As := [.int (nI w_4)]) (rest := []) (b := co) S0 (c_X0_setSlack l g co ck ch cl np sl kd hg lk w_4) (cwV 1 hts gX4_slack_X0_setSlack rfl rfl rfl (by decide +kernel) ⟨by decide, by decide⟩) (zpreVM hK hP hD [2, 3, 4, 5] rfl (by decide) (va_recv hK.1 hPc (ci := 0) (q0 := 0) rfl rfl)) rfl rfl hl.1 rfl (lv_room (Nat.le_of_ble_eq_true rfl)) dX4_slack_39 ⟨by decide, by decide⟩) hP hD hS [2, 3, 4, 5] rfl (fun uu39 => wX g x sh co ck ch cl vo vpa vma re rua rla rma rda sad cad tr ft np w_4 kd hg lk vn vp vm nr ru rl rm rd lane ml cel) (fun _ => lz_wC.trans lz_wC.symm) (fun _ => rfl) (fun _ => ad_wX.trans ad_wX.symm) (fun uu39 H locs h39 hP hD hS => ?_)
      refine lv_iload_n hx hb dX4_slack_42 rfl (lv_at hl 0 rfl) ?_
      exact zretMI (w1 := fun (uu : Unit) => wX g x sh co ck ch cl vo vpa vma re rua rla rma rda sad cad tr ft np (st_slack np sl (nI w_4)) kd hg lk vn vp vm nr ru rl rm rd lane ml cel) () hx hb hr hlocks hS rfl (by rw [sp_slack, if_pos (isP_of (by omega) hw_4), if_pos (b01_n0.mp c20)]) (by rw [st_slack, if_pos (isP_of (by omega) hw_4), if_pos (b01_n0.mp c20), tN_nI (u := w_4) (by omega)]; exact hP) dX4_slack_43
    · refine lv_bipush (v := (-3)) hx hb dX4_slack_23 (by decide) ?_
      exact zretMI (w1 := fun (uu : Unit) => wX g x sh co ck ch cl vo vpa vma re rua rla rma rda sad cad tr ft np (st_slack np sl (nI w_4)) kd hg lk vn vp vm nr ru rl rm rd lane ml cel) () hx hb hr hlocks hS rfl (by rw [sp_slack, if_pos (isP_of (by omega) hw_4), if_neg (b01_0.mp c20)]) (by rw [st_slack, if_pos (isP_of (by omega) hw_4), if_neg (b01_0.mp c20)]; exact hP) dX4_slack_25
  · refine lv_if_ne (tgt := 13) hx hb dX4_slack_7 (by decide) (fun c7 => ?_) (fun c7 => ?_)
    · exact absurd c7 (by decide)
    refine lv_bipush (v := (-2)) hx hb dX4_slack_10 (by decide) ?_
    exact zretMI (w1 := fun (uu : Unit) => wX g x sh co ck ch cl vo vpa vma re rua rla rma rda sad cad tr ft np (st_slack np sl v) kd hg lk vn vp vm nr ru rl rm rd lane ml cel) () hx hb hr hlocks hS rfl (by rw [sp_slack, if_neg hn_4]) (by rw [st_slack, if_neg hn_4]; exact hP) dX4_slack_12

set_option maxHeartbeats 4000000 in
set_option maxRecDepth 100000 in
theorem c_X4_worn (l : Launch) (g : Gx) (x : Nat) (sh : Nat) (co : Nat) (ck : Nat) (ch : Nat) (cl : Nat) (vo : Nat) (vpa : Nat) (vma : Nat) (re : Nat) (rua : Nat) (rla : Nat) (rma : Nat) (rda : Nat) (sad : Nat → Nat) (cad : Nat → Nat) (tr : Int32) (ft : Nat) (np : Nat) (sl : Nat) (kd : Nat → Nat) (hg : Nat → Nat) (lk : Nat → Nat) (vn : Nat) (vp : Nat → Int32) (vm : Nat → Int32) (nr : Nat) (ru : Nat → Nat) (rl : Nat → Nat) (rm : Nat → Nat) (rd : Nat → Nat) (lane : Nat → Nat) (ml : Nat → Nat) (cel : Nat → Nat → Int32) (p : Int32) (k : Int32) (m : Int32) (hG : Gd np sl kd hg nr ru rl rm rd lane ml) : Met l yX4_worn wsX4_worn ({ frames := 3, cells := 0, slots := 0, locals := 66 } : Room) (PcR g [.ref x, .int p, .int k, .int m] (wX g x sh co ck ch cl vo vpa vma re rua rla rma rda sad cad tr ft np sl kd hg lk vn vp vm nr ru rl rm rd lane ml cel)) (vp_Si (fun r => r = sp_worn np kd hg p k m)) 0 0 (fun _ => False) := by
  refine zenterR (cc := cX4_worn) (maxL := 4) (ret := (some .int)) (by decide) rfl (Nat.le_of_ble_eq_true rfl) ?_
  intro P E s mt below meth cd ls hx hb hml hown hts hr hlocks hP hK hl
  have hl : lv_has ls 4 [(0, .ref x), (1, .int p), (2, .int k), (3, .int m)] := hl
  have S0 : CallFix P mt cd cX4_worn 4 s [.ref x, .int p, .int k, .int m].toArray wsX4_worn RX4 := ⟨hx, hb, hml, hown, hts⟩
  obtain ⟨hnp, hsl, hkd, hhg, hnr, hru, hrl, hrm, hrd, hla, hmz⟩ := hG
  refine lv_aload_n hx hb dX4_worn_0 rfl (lv_at hl 0 rfl) ?_
  refine va_get (D := g.1) (ci := 4) (v := .ref co) (C := RX4) (T := TX4) (N := 6) hx hb hts (fun _ h => (List.mem_cons_of_mem _ (List.mem_append_left _ (List.mem_append_right _ h)))) hown hK.1 hP 0 rfl rfl 1 (by decide) (hts _ (List.mem_of_getElem? (i := 1) rfl)) (fun _ h9 => h9) rfl dX4_worn_1 ?_
  refine lv_iload_n hx hb dX4_worn_4 rfl (lv_at hl 1 rfl) ?_
  have hPc : PP g (wC g co ck ch cl np sl kd hg lk) _ := (P_sub (w := wC g co ck ch cl np sl kd hg lk) hP [2, 3, 4, 5] rfl)
  refine zcallR (va_runV (As := [.int p]) (rest := []) (b := co) S0 (c_X0_hasPass l g co ck ch cl np sl kd hg lk p hnp) (cwV 1 hts gX4_worn_X0_hasPass rfl rfl rfl (by decide +kernel) ⟨by decide, by decide⟩) (zpreV hK hPc (va_recv hK.1 hPc (ci := 0) (q0 := 0) rfl rfl)) rfl rfl hl.1 rfl (lv_room (Nat.le_of_ble_eq_true rfl)) dX4_worn_5 ⟨by decide, by decide⟩) (fun r5 h5 => ?_)
  rcases h5 with ⟨w_5, hw_5, hv_5, rfl⟩ | ⟨hn_5, rfl⟩
  · subst hv_5
    refine lv_if_ne (tgt := 13) hx hb dX4_worn_8 (by decide) (fun c8 => ?_) (fun c8 => ?_)
    rotate_left
    · exact absurd c8 (by decide)
    refine lv_iload_n hx hb dX4_worn_13 rfl (lv_at hl 2 rfl) ?_
    refine zcallR (va_runS (As := [.int k]) (rest := []) S0 (c_X4_isPlace l g k) (va_cwS 1 hts gX4_worn_X4_isPlace rfl rfl rfl (by decide +kernel) ⟨by decide, by decide⟩) (zpreS hK (P_nil _)) rfl rfl hl.1 rfl (lv_room (Nat.le_of_ble_eq_true rfl)) dX4_worn_14 ⟨by decide, by decide⟩) (fun r14 h14 => ?_)
    rcases h14 with ⟨w_14, hw_14, hv_14, rfl⟩ | ⟨hn_14, rfl⟩
    · subst hv_14
      refine lv_if_eq (tgt := 27) hx hb dX4_worn_17 (by decide) (fun c17 => ?_) (fun c17 => ?_)
      · exact absurd c17 (by decide)
      refine lv_iload_n hx hb dX4_worn_20 rfl (lv_at hl 3 rfl) ?_
      refine zcallR (va_runS (As := [.int m]) (rest := []) S0 (c_X4_isMonths l g m) (va_cwS 1 hts gX4_worn_X4_isMonths rfl rfl rfl (by decide +kernel) ⟨by decide, by decide⟩) (zpreS hK (P_nil _)) rfl rfl hl.1 rfl (lv_room (Nat.le_of_ble_eq_true rfl)) dX4_worn_21 ⟨by decide, by decide⟩) (fun r21 h21 => ?_)
      rcases h21 with ⟨w_21, hw_21, hv_21, rfl⟩ | ⟨hn_21, rfl⟩
      · subst hv_21
        refine lv_if_ne (tgt := 30) hx hb dX4_worn_24 (by decide) (fun c24 => ?_) (fun c24 => ?_)
        rotate_left
        · exact absurd c24 (by decide)
        refine lv_aload_n hx hb dX4_worn_30 rfl (lv_at hl 0 rfl) ?_
        refine va_get (D := g.1) (ci := 4) (v := .ref co) (C := RX4) (T := TX4) (N := 6) hx hb hts (fun _ h => (List.mem_cons_of_mem _ (List.mem_append_left _ (List.mem_append_right _ h)))) hown hK.1 hP 0 rfl rfl 1 (by decide) (hts _ (List.mem_of_getElem? (i := 1) rfl)) (fun _ h9 => h9) rfl dX4_worn_31 ?_
        refine lv_iload_n hx hb dX4_worn_34 rfl (lv_at hl 1 rfl) ?_
        refine lv_iload_n hx hb dX4_worn_35 rfl (lv_at hl 2 rfl) ?_
        refine lv_iload_n hx hb dX4_worn_36 rfl (lv_at hl 3 rfl) ?_
        have hPc : PP g (wC g co ck ch cl np sl kd hg lk) _ := (P_sub (w := wC g co ck ch cl np sl kd hg lk) hP [2, 3, 4, 5] rfl)
        refine zcallR (va_runV (As := [.int (nI w_5), .int (nI w_14), .int (nI w_21)]) (rest := []) (b := co) S0 (c_X0_lowerHeight l g co ck ch cl np sl kd hg lk w_5 w_14 w_21 hnp hkd hhg (by omega) (by omega) (by omega)) (cwV 3 hts gX4_worn_X0_lowerHeight rfl rfl rfl (by decide +kernel) ⟨by decide, by decide⟩) (zpreV hK hPc (va_recv hK.1 hPc (ci := 0) (q0 := 0) rfl rfl)) rfl rfl hl.1 rfl (lv_room (Nat.le_of_ble_eq_true rfl)) dX4_worn_37 ⟨by decide, by decide⟩) (fun r37 h37 => ?_)
        subst h37
        exact zretI hx hb hr hlocks rfl (by rw [sp_worn, if_pos (isP_of (by omega) hw_5), if_pos ⟨(isP_of (by omega) hw_14), (isP_of (by omega) hw_21)⟩, tN_nI (u := w_5) (by omega), tN_nI (u := w_14) (by omega), tN_nI (u := w_21) (by omega)]) dX4_worn_40
      · refine lv_if_ne (tgt := 30) hx hb dX4_worn_24 (by decide) (fun c24 => ?_) (fun c24 => ?_)
        · exact absurd c24 (by decide)
        refine lv_bipush (v := (-2)) hx hb dX4_worn_27 (by decide) ?_
        exact zretI hx hb hr hlocks rfl (by rw [sp_worn, if_pos (isP_of (by omega) hw_5), if_neg (fun z => hn_21 z.2)]) dX4_worn_29
    · refine lv_if_eq (tgt := 27) hx hb dX4_worn_17 (by decide) (fun c17 => ?_) (fun c17 => ?_)
      rotate_left
      · exact absurd (by decide) c17
      refine lv_bipush (v := (-2)) hx hb dX4_worn_27 (by decide) ?_
      exact zretI hx hb hr hlocks rfl (by rw [sp_worn, if_pos (isP_of (by omega) hw_5), if_neg (fun z => hn_14 z.1)]) dX4_worn_29
  · refine lv_if_ne (tgt := 13) hx hb dX4_worn_8 (by decide) (fun c8 => ?_) (fun c8 => ?_)
    · exact absurd c8 (by decide)
    refine lv_iconst (v := (-1)) hx hb dX4_worn_11 (by decide) ?_
    exact zretI hx hb hr hlocks rfl (by rw [sp_worn, if_neg hn_5]) dX4_worn_12

set_option maxHeartbeats 4000000 in
set_option maxRecDepth 100000 in
theorem c_X4_off (l : Launch) (g : Gx) (x : Nat) (sh : Nat) (co : Nat) (ck : Nat) (ch : Nat) (cl : Nat) (vo : Nat) (vpa : Nat) (vma : Nat) (re : Nat) (rua : Nat) (rla : Nat) (rma : Nat) (rda : Nat) (sad : Nat → Nat) (cad : Nat → Nat) (tr : Int32) (ft : Nat) (np : Nat) (sl : Nat) (kd : Nat → Nat) (hg : Nat → Nat) (lk : Nat → Nat) (vn : Nat) (vp : Nat → Int32) (vm : Nat → Int32) (nr : Nat) (ru : Nat → Nat) (rl : Nat → Nat) (rm : Nat → Nat) (rd : Nat → Nat) (lane : Nat → Nat) (ml : Nat → Nat) (cel : Nat → Nat → Int32) (p : Int32) (q : Int32) (m : Int32) (hG : Gd np sl kd hg nr ru rl rm rd lane ml) : Met l yX4_off wsX4_off ({ frames := 3, cells := 0, slots := 0, locals := 70 } : Room) (PcR g [.ref x, .int p, .int q, .int m] (wX g x sh co ck ch cl vo vpa vma re rua rla rma rda sad cad tr ft np sl kd hg lk vn vp vm nr ru rl rm rd lane ml cel)) (vp_Si (fun r => r = sp_off np kd hg p q m)) 0 0 (fun _ => False) := by
  refine zenterR (cc := cX4_off) (maxL := 4) (ret := (some .int)) (by decide) rfl (Nat.le_of_ble_eq_true rfl) ?_
  intro P E s mt below meth cd ls hx hb hml hown hts hr hlocks hP hK hl
  have hl : lv_has ls 4 [(0, .ref x), (1, .int p), (2, .int q), (3, .int m)] := hl
  have S0 : CallFix P mt cd cX4_off 4 s [.ref x, .int p, .int q, .int m].toArray wsX4_off RX4 := ⟨hx, hb, hml, hown, hts⟩
  obtain ⟨hnp, hsl, hkd, hhg, hnr, hru, hrl, hrm, hrd, hla, hmz⟩ := hG
  refine lv_aload_n hx hb dX4_off_0 rfl (lv_at hl 0 rfl) ?_
  refine va_get (D := g.1) (ci := 4) (v := .ref co) (C := RX4) (T := TX4) (N := 6) hx hb hts (fun _ h => (List.mem_cons_of_mem _ (List.mem_append_left _ (List.mem_append_right _ h)))) hown hK.1 hP 0 rfl rfl 1 (by decide) (hts _ (List.mem_of_getElem? (i := 1) rfl)) (fun _ h9 => h9) rfl dX4_off_1 ?_
  refine lv_iload_n hx hb dX4_off_4 rfl (lv_at hl 1 rfl) ?_
  have hPc : PP g (wC g co ck ch cl np sl kd hg lk) _ := (P_sub (w := wC g co ck ch cl np sl kd hg lk) hP [2, 3, 4, 5] rfl)
  refine zcallR (va_runV (As := [.int p]) (rest := []) (b := co) S0 (c_X0_hasPass l g co ck ch cl np sl kd hg lk p hnp) (cwV 1 hts gX4_off_X0_hasPass rfl rfl rfl (by decide +kernel) ⟨by decide, by decide⟩) (zpreV hK hPc (va_recv hK.1 hPc (ci := 0) (q0 := 0) rfl rfl)) rfl rfl hl.1 rfl (lv_room (Nat.le_of_ble_eq_true rfl)) dX4_off_5 ⟨by decide, by decide⟩) (fun r5 h5 => ?_)
  rcases h5 with ⟨w_5, hw_5, hv_5, rfl⟩ | ⟨hn_5, rfl⟩
  · subst hv_5
    refine lv_if_eq (tgt := 22) hx hb dX4_off_8 (by decide) (fun c8 => ?_) (fun c8 => ?_)
    · exact absurd c8 (by decide)
    refine lv_aload_n hx hb dX4_off_11 rfl (lv_at hl 0 rfl) ?_
    refine va_get (D := g.1) (ci := 4) (v := .ref co) (C := RX4) (T := TX4) (N := 6) hx hb hts (fun _ h => (List.mem_cons_of_mem _ (List.mem_append_left _ (List.mem_append_right _ h)))) hown hK.1 hP 0 rfl rfl 1 (by decide) (hts _ (List.mem_of_getElem? (i := 1) rfl)) (fun _ h9 => h9) rfl dX4_off_12 ?_
    refine lv_iload_n hx hb dX4_off_15 rfl (lv_at hl 2 rfl) ?_
    have hPc : PP g (wC g co ck ch cl np sl kd hg lk) _ := (P_sub (w := wC g co ck ch cl np sl kd hg lk) hP [2, 3, 4, 5] rfl)
    refine zcallR (va_runV (As := [.int q]) (rest := []) (b := co) S0 (c_X0_hasPass l g co ck ch cl np sl kd hg lk q hnp) (cwV 1 hts gX4_off_X0_hasPass rfl rfl rfl (by decide +kernel) ⟨by decide, by decide⟩) (zpreV hK hPc (va_recv hK.1 hPc (ci := 0) (q0 := 0) rfl rfl)) rfl rfl hl.1 rfl (lv_room (Nat.le_of_ble_eq_true rfl)) dX4_off_16 ⟨by decide, by decide⟩) (fun r16 h16 => ?_)
    rcases h16 with ⟨w_16, hw_16, hv_16, rfl⟩ | ⟨hn_16, rfl⟩
    · subst hv_16
      refine lv_if_ne (tgt := 24) hx hb dX4_off_19 (by decide) (fun c19 => ?_) (fun c19 => ?_)
      rotate_left
      · exact absurd c19 (by decide)
      refine lv_iload_n hx hb dX4_off_24 rfl (lv_at hl 3 rfl) ?_
      refine zcallR (va_runS (As := [.int m]) (rest := []) S0 (c_X4_isMonths l g m) (va_cwS 1 hts gX4_off_X4_isMonths rfl rfl rfl (by decide +kernel) ⟨by decide, by decide⟩) (zpreS hK (P_nil _)) rfl rfl hl.1 rfl (lv_room (Nat.le_of_ble_eq_true rfl)) dX4_off_25 ⟨by decide, by decide⟩) (fun r25 h25 => ?_)
      rcases h25 with ⟨w_25, hw_25, hv_25, rfl⟩ | ⟨hn_25, rfl⟩
      · subst hv_25
        refine lv_if_eq (tgt := 44) hx hb dX4_off_28 (by decide) (fun c28 => ?_) (fun c28 => ?_)
        · exact absurd c28 (by decide)
        refine lv_aload_n hx hb dX4_off_31 rfl (lv_at hl 0 rfl) ?_
        refine va_get (D := g.1) (ci := 4) (v := .ref co) (C := RX4) (T := TX4) (N := 6) hx hb hts (fun _ h => (List.mem_cons_of_mem _ (List.mem_append_left _ (List.mem_append_right _ h)))) hown hK.1 hP 0 rfl rfl 1 (by decide) (hts _ (List.mem_of_getElem? (i := 1) rfl)) (fun _ h9 => h9) rfl dX4_off_32 ?_
        refine lv_iload_n hx hb dX4_off_35 rfl (lv_at hl 1 rfl) ?_
        refine lv_iload_n hx hb dX4_off_36 rfl (lv_at hl 2 rfl) ?_
        refine lv_iload_n hx hb dX4_off_37 rfl (lv_at hl 3 rfl) ?_
        have hPc : PP g (wC g co ck ch cl np sl kd hg lk) _ := (P_sub (w := wC g co ck ch cl np sl kd hg lk) hP [2, 3, 4, 5] rfl)
        refine zcallR (va_runV (As := [.int (nI w_5), .int (nI w_16), .int (nI w_25)]) (rest := []) (b := co) S0 (c_X0_apart l g co ck ch cl np sl kd hg lk w_5 w_16 w_25 hnp hkd hhg (by omega) (by omega) (by omega)) (cwV 3 hts gX4_off_X0_apart rfl rfl rfl (by decide +kernel) ⟨by decide, by decide⟩) (zpreV hK hPc (va_recv hK.1 hPc (ci := 0) (q0 := 0) rfl rfl)) rfl rfl hl.1 rfl (lv_room (Nat.le_of_ble_eq_true rfl)) dX4_off_38 ⟨by decide, by decide⟩) (fun r38 h38 => ?_)
        subst h38
        have f1 := ap_le kd hhg w_5 w_16 w_25
        refine lv_goto (tgt := 46) hx hb dX4_off_41 (by decide) ?_
        exact zretI hx hb hr hlocks rfl (by rw [sp_off, if_pos ⟨(isP_of (by omega) hw_5), (isP_of (by omega) hw_16)⟩, if_pos (isP_of (by omega) hw_25), tN_nI (u := w_5) (by omega), tN_nI (u := w_16) (by omega), tN_nI (u := w_25) (by omega)]) dX4_off_46
      · refine lv_if_eq (tgt := 44) hx hb dX4_off_28 (by decide) (fun c28 => ?_) (fun c28 => ?_)
        rotate_left
        · exact absurd (by decide) c28
        refine lv_bipush (v := (-2)) hx hb dX4_off_44 (by decide) ?_
        exact zretI hx hb hr hlocks rfl (by rw [sp_off, if_pos ⟨(isP_of (by omega) hw_5), (isP_of (by omega) hw_16)⟩, if_neg hn_25]) dX4_off_46
    · refine lv_if_ne (tgt := 24) hx hb dX4_off_19 (by decide) (fun c19 => ?_) (fun c19 => ?_)
      · exact absurd c19 (by decide)
      refine lv_iconst (v := (-1)) hx hb dX4_off_22 (by decide) ?_
      exact zretI hx hb hr hlocks rfl (by rw [sp_off, if_neg (fun z => hn_16 z.2)]) dX4_off_23
  · refine lv_if_eq (tgt := 22) hx hb dX4_off_8 (by decide) (fun c8 => ?_) (fun c8 => ?_)
    rotate_left
    · exact absurd (by decide) c8
    refine lv_iconst (v := (-1)) hx hb dX4_off_22 (by decide) ?_
    exact zretI hx hb hr hlocks rfl (by rw [sp_off, if_neg (fun z => hn_5 z.1)]) dX4_off_23

set_option maxHeartbeats 4000000 in
set_option maxRecDepth 100000 in
theorem c_X4_fits (l : Launch) (g : Gx) (x : Nat) (sh : Nat) (co : Nat) (ck : Nat) (ch : Nat) (cl : Nat) (vo : Nat) (vpa : Nat) (vma : Nat) (re : Nat) (rua : Nat) (rla : Nat) (rma : Nat) (rda : Nat) (sad : Nat → Nat) (cad : Nat → Nat) (tr : Int32) (ft : Nat) (np : Nat) (sl : Nat) (kd : Nat → Nat) (hg : Nat → Nat) (lk : Nat → Nat) (vn : Nat) (vp : Nat → Int32) (vm : Nat → Int32) (nr : Nat) (ru : Nat → Nat) (rl : Nat → Nat) (rm : Nat → Nat) (rd : Nat → Nat) (lane : Nat → Nat) (ml : Nat → Nat) (cel : Nat → Nat → Int32) (q : Int32) (m : Int32) (hG : Gd np sl kd hg nr ru rl rm rd lane ml) : Met l yX4_fits wsX4_fits ({ frames := 4, cells := 0, slots := 0, locals := 94 } : Room) (PcR g [.ref x, .int q, .int m] (wX g x sh co ck ch cl vo vpa vma re rua rla rma rda sad cad tr ft np sl kd hg lk vn vp vm nr ru rl rm rd lane ml cel)) (vp_Si (fun r => r = sp_fits np sl kd hg q m)) 0 0 (fun _ => False) := by
  refine zenterR (cc := cX4_fits) (maxL := 3) (ret := (some .int)) (by decide) rfl (Nat.le_of_ble_eq_true rfl) ?_
  intro P E s mt below meth cd ls hx hb hml hown hts hr hlocks hP hK hl
  have hl : lv_has ls 3 [(0, .ref x), (1, .int q), (2, .int m)] := hl
  have S0 : CallFix P mt cd cX4_fits 3 s [.ref x, .int q, .int m].toArray wsX4_fits RX4 := ⟨hx, hb, hml, hown, hts⟩
  obtain ⟨hnp, hsl, hkd, hhg, hnr, hru, hrl, hrm, hrd, hla, hmz⟩ := hG
  refine lv_aload_n hx hb dX4_fits_0 rfl (lv_at hl 0 rfl) ?_
  refine va_get (D := g.1) (ci := 4) (v := .ref co) (C := RX4) (T := TX4) (N := 6) hx hb hts (fun _ h => (List.mem_cons_of_mem _ (List.mem_append_left _ (List.mem_append_right _ h)))) hown hK.1 hP 0 rfl rfl 1 (by decide) (hts _ (List.mem_of_getElem? (i := 1) rfl)) (fun _ h9 => h9) rfl dX4_fits_1 ?_
  refine lv_iload_n hx hb dX4_fits_4 rfl (lv_at hl 1 rfl) ?_
  have hPc : PP g (wC g co ck ch cl np sl kd hg lk) _ := (P_sub (w := wC g co ck ch cl np sl kd hg lk) hP [2, 3, 4, 5] rfl)
  refine zcallR (va_runV (As := [.int q]) (rest := []) (b := co) S0 (c_X0_hasPass l g co ck ch cl np sl kd hg lk q hnp) (cwV 1 hts gX4_fits_X0_hasPass rfl rfl rfl (by decide +kernel) ⟨by decide, by decide⟩) (zpreV hK hPc (va_recv hK.1 hPc (ci := 0) (q0 := 0) rfl rfl)) rfl rfl hl.1 rfl (lv_room (Nat.le_of_ble_eq_true rfl)) dX4_fits_5 ⟨by decide, by decide⟩) (fun r5 h5 => ?_)
  rcases h5 with ⟨w_5, hw_5, hv_5, rfl⟩ | ⟨hn_5, rfl⟩
  · subst hv_5
    refine lv_if_ne (tgt := 13) hx hb dX4_fits_8 (by decide) (fun c8 => ?_) (fun c8 => ?_)
    rotate_left
    · exact absurd c8 (by decide)
    refine lv_iload_n hx hb dX4_fits_13 rfl (lv_at hl 2 rfl) ?_
    refine zcallR (va_runS (As := [.int m]) (rest := []) S0 (c_X4_isMonths l g m) (va_cwS 1 hts gX4_fits_X4_isMonths rfl rfl rfl (by decide +kernel) ⟨by decide, by decide⟩) (zpreS hK (P_nil _)) rfl rfl hl.1 rfl (lv_room (Nat.le_of_ble_eq_true rfl)) dX4_fits_14 ⟨by decide, by decide⟩) (fun r14 h14 => ?_)
    rcases h14 with ⟨w_14, hw_14, hv_14, rfl⟩ | ⟨hn_14, rfl⟩
    · subst hv_14
      refine lv_if_eq (tgt := 32) hx hb dX4_fits_17 (by decide) (fun c17 => ?_) (fun c17 => ?_)
      · exact absurd c17 (by decide)
      refine lv_aload_n hx hb dX4_fits_20 rfl (lv_at hl 0 rfl) ?_
      refine va_get (D := g.1) (ci := 4) (v := .ref co) (C := RX4) (T := TX4) (N := 6) hx hb hts (fun _ h => (List.mem_cons_of_mem _ (List.mem_append_left _ (List.mem_append_right _ h)))) hown hK.1 hP 0 rfl rfl 1 (by decide) (hts _ (List.mem_of_getElem? (i := 1) rfl)) (fun _ h9 => h9) rfl dX4_fits_21 ?_
      refine lv_iload_n hx hb dX4_fits_24 rfl (lv_at hl 1 rfl) ?_
      refine lv_iload_n hx hb dX4_fits_25 rfl (lv_at hl 2 rfl) ?_
      have hPc : PP g (wC g co ck ch cl np sl kd hg lk) _ := (P_sub (w := wC g co ck ch cl np sl kd hg lk) hP [2, 3, 4, 5] rfl)
      refine zcallR (va_runV (As := [.int (nI w_5), .int (nI w_14)]) (rest := []) (b := co) S0 (c_X0_fitting l g co ck ch cl np sl kd hg lk w_5 w_14 hnp hsl hkd hhg (by omega) (by omega)) (cwV 2 hts gX4_fits_X0_fitting rfl rfl rfl (by decide +kernel) ⟨by decide, by decide⟩) (zpreV hK hPc (va_recv hK.1 hPc (ci := 0) (q0 := 0) rfl rfl)) rfl rfl hl.1 rfl (lv_room (Nat.le_of_ble_eq_true rfl)) dX4_fits_26 ⟨by decide, by decide⟩) (fun r26 h26 => ?_)
      subst h26
      have f1 := fset_64 hnp sl kd hg w_5 w_14
      refine lv_goto (tgt := 34) hx hb dX4_fits_29 (by decide) ?_
      exact zretI hx hb hr hlocks rfl (by rw [sp_fits, if_pos (isP_of (by omega) hw_5), if_pos (isP_of (by omega) hw_14), tN_nI (u := w_5) (by omega), tN_nI (u := w_14) (by omega)]) dX4_fits_34
    · refine lv_if_eq (tgt := 32) hx hb dX4_fits_17 (by decide) (fun c17 => ?_) (fun c17 => ?_)
      rotate_left
      · exact absurd (by decide) c17
      refine lv_bipush (v := (-2)) hx hb dX4_fits_32 (by decide) ?_
      exact zretI hx hb hr hlocks rfl (by rw [sp_fits, if_pos (isP_of (by omega) hw_5), if_neg hn_14]) dX4_fits_34
  · refine lv_if_ne (tgt := 13) hx hb dX4_fits_8 (by decide) (fun c8 => ?_) (fun c8 => ?_)
    · exact absurd c8 (by decide)
    refine lv_iconst (v := (-1)) hx hb dX4_fits_11 (by decide) ?_
    exact zretI hx hb hr hlocks rfl (by rw [sp_fits, if_neg hn_5]) dX4_fits_12

set_option maxHeartbeats 4000000 in
set_option maxRecDepth 100000 in
theorem c_X4_match (l : Launch) (g : Gx) (x : Nat) (sh : Nat) (co : Nat) (ck : Nat) (ch : Nat) (cl : Nat) (vo : Nat) (vpa : Nat) (vma : Nat) (re : Nat) (rua : Nat) (rla : Nat) (rma : Nat) (rda : Nat) (sad : Nat → Nat) (cad : Nat → Nat) (tr : Int32) (ft : Nat) (np : Nat) (sl : Nat) (kd : Nat → Nat) (hg : Nat → Nat) (lk : Nat → Nat) (vn : Nat) (vp : Nat → Int32) (vm : Nat → Int32) (nr : Nat) (ru : Nat → Nat) (rl : Nat → Nat) (rm : Nat → Nat) (rd : Nat → Nat) (lane : Nat → Nat) (ml : Nat → Nat) (cel : Nat → Nat → Int32) (q : Int32) (m : Int32) (hG : Gd np sl kd hg nr ru rl rm rd lane ml) : Met l yX4_match wsX4_match ({ frames := 4, cells := 0, slots := 0, locals := 96 } : Room) (PcR g [.ref x, .int q, .int m] (wX g x sh co ck ch cl vo vpa vma re rua rla rma rda sad cad tr ft np sl kd hg lk vn vp vm nr ru rl rm rd lane ml cel)) (vp_Si (fun r => r = sp_match np sl kd hg q m)) 0 0 (fun _ => False) := by
  refine zenterR (cc := cX4_match) (maxL := 3) (ret := (some .int)) (by decide) rfl (Nat.le_of_ble_eq_true rfl) ?_
  intro P E s mt below meth cd ls hx hb hml hown hts hr hlocks hP hK hl
  have hl : lv_has ls 3 [(0, .ref x), (1, .int q), (2, .int m)] := hl
  have S0 : CallFix P mt cd cX4_match 3 s [.ref x, .int q, .int m].toArray wsX4_match RX4 := ⟨hx, hb, hml, hown, hts⟩
  obtain ⟨hnp, hsl, hkd, hhg, hnr, hru, hrl, hrm, hrd, hla, hmz⟩ := hG
  refine lv_aload_n hx hb dX4_match_0 rfl (lv_at hl 0 rfl) ?_
  refine va_get (D := g.1) (ci := 4) (v := .ref co) (C := RX4) (T := TX4) (N := 6) hx hb hts (fun _ h => (List.mem_cons_of_mem _ (List.mem_append_left _ (List.mem_append_right _ h)))) hown hK.1 hP 0 rfl rfl 1 (by decide) (hts _ (List.mem_of_getElem? (i := 1) rfl)) (fun _ h9 => h9) rfl dX4_match_1 ?_
  refine lv_iload_n hx hb dX4_match_4 rfl (lv_at hl 1 rfl) ?_
  have hPc : PP g (wC g co ck ch cl np sl kd hg lk) _ := (P_sub (w := wC g co ck ch cl np sl kd hg lk) hP [2, 3, 4, 5] rfl)
  refine zcallR (va_runV (As := [.int q]) (rest := []) (b := co) S0 (c_X0_hasPass l g co ck ch cl np sl kd hg lk q hnp) (cwV 1 hts gX4_match_X0_hasPass rfl rfl rfl (by decide +kernel) ⟨by decide, by decide⟩) (zpreV hK hPc (va_recv hK.1 hPc (ci := 0) (q0 := 0) rfl rfl)) rfl rfl hl.1 rfl (lv_room (Nat.le_of_ble_eq_true rfl)) dX4_match_5 ⟨by decide, by decide⟩) (fun r5 h5 => ?_)
  rcases h5 with ⟨w_5, hw_5, hv_5, rfl⟩ | ⟨hn_5, rfl⟩
  · subst hv_5
    refine lv_if_ne (tgt := 13) hx hb dX4_match_8 (by decide) (fun c8 => ?_) (fun c8 => ?_)
    rotate_left
    · exact absurd c8 (by decide)
    refine lv_iload_n hx hb dX4_match_13 rfl (lv_at hl 2 rfl) ?_
    refine zcallR (va_runS (As := [.int m]) (rest := []) S0 (c_X4_isMonths l g m) (va_cwS 1 hts gX4_match_X4_isMonths rfl rfl rfl (by decide +kernel) ⟨by decide, by decide⟩) (zpreS hK (P_nil _)) rfl rfl hl.1 rfl (lv_room (Nat.le_of_ble_eq_true rfl)) dX4_match_14 ⟨by decide, by decide⟩) (fun r14 h14 => ?_)
    rcases h14 with ⟨w_14, hw_14, hv_14, rfl⟩ | ⟨hn_14, rfl⟩
    · subst hv_14
      refine lv_if_eq (tgt := 32) hx hb dX4_match_17 (by decide) (fun c17 => ?_) (fun c17 => ?_)
      · exact absurd c17 (by decide)
      refine lv_aload_n hx hb dX4_match_20 rfl (lv_at hl 0 rfl) ?_
      refine va_get (D := g.1) (ci := 4) (v := .ref co) (C := RX4) (T := TX4) (N := 6) hx hb hts (fun _ h => (List.mem_cons_of_mem _ (List.mem_append_left _ (List.mem_append_right _ h)))) hown hK.1 hP 0 rfl rfl 1 (by decide) (hts _ (List.mem_of_getElem? (i := 1) rfl)) (fun _ h9 => h9) rfl dX4_match_21 ?_
      refine lv_iload_n hx hb dX4_match_24 rfl (lv_at hl 1 rfl) ?_
      refine lv_iload_n hx hb dX4_match_25 rfl (lv_at hl 2 rfl) ?_
      have hPc : PP g (wC g co ck ch cl np sl kd hg lk) _ := (P_sub (w := wC g co ck ch cl np sl kd hg lk) hP [2, 3, 4, 5] rfl)
      refine zcallR (va_runV (As := [.int (nI w_5), .int (nI w_14)]) (rest := []) (b := co) S0 (c_X0_closestFitting l g co ck ch cl np sl kd hg lk w_5 w_14 hnp hsl hkd hhg (by omega) (by omega)) (cwV 2 hts gX4_match_X0_closestFitting rfl rfl rfl (by decide +kernel) ⟨by decide, by decide⟩) (zpreV hK hPc (va_recv hK.1 hPc (ci := 0) (q0 := 0) rfl rfl)) rfl rfl hl.1 rfl (lv_room (Nat.le_of_ble_eq_true rfl)) dX4_match_26 ⟨by decide, by decide⟩) (fun r26 h26 => ?_)
      subst h26
      refine lv_goto (tgt := 34) hx hb dX4_match_29 (by decide) ?_
      exact zretI hx hb hr hlocks rfl (by rw [sp_match, if_pos (isP_of (by omega) hw_5), if_pos (isP_of (by omega) hw_14), tN_nI (u := w_5) (by omega), tN_nI (u := w_14) (by omega)]) dX4_match_34
    · refine lv_if_eq (tgt := 32) hx hb dX4_match_17 (by decide) (fun c17 => ?_) (fun c17 => ?_)
      rotate_left
      · exact absurd (by decide) c17
      refine lv_bipush (v := (-2)) hx hb dX4_match_32 (by decide) ?_
      exact zretI hx hb hr hlocks rfl (by rw [sp_match, if_pos (isP_of (by omega) hw_5), if_neg hn_14]) dX4_match_34
  · refine lv_if_ne (tgt := 13) hx hb dX4_match_8 (by decide) (fun c8 => ?_) (fun c8 => ?_)
    · exact absurd c8 (by decide)
    refine lv_iconst (v := (-1)) hx hb dX4_match_11 (by decide) ?_
    exact zretI hx hb hr hlocks rfl (by rw [sp_match, if_neg hn_5]) dX4_match_12

set_option maxHeartbeats 4000000 in
set_option maxRecDepth 100000 in
theorem c_X4_last (l : Launch) (g : Gx) (x : Nat) (sh : Nat) (co : Nat) (ck : Nat) (ch : Nat) (cl : Nat) (vo : Nat) (vpa : Nat) (vma : Nat) (re : Nat) (rua : Nat) (rla : Nat) (rma : Nat) (rda : Nat) (sad : Nat → Nat) (cad : Nat → Nat) (tr : Int32) (ft : Nat) (np : Nat) (sl : Nat) (kd : Nat → Nat) (hg : Nat → Nat) (lk : Nat → Nat) (vn : Nat) (vp : Nat → Int32) (vm : Nat → Int32) (nr : Nat) (ru : Nat → Nat) (rl : Nat → Nat) (rm : Nat → Nat) (rd : Nat → Nat) (lane : Nat → Nat) (ml : Nat → Nat) (cel : Nat → Nat → Int32) (p : Int32) (hG : Gd np sl kd hg nr ru rl rm rd lane ml) : Met l yX4_last wsX4_last ({ frames := 5, cells := 0, slots := 0, locals := 115 } : Room) (PcR g [.ref x, .int p] (wX g x sh co ck ch cl vo vpa vma re rua rla rma rda sad cad tr ft np sl kd hg lk vn vp vm nr ru rl rm rd lane ml cel)) (vp_Si (fun r => r = sp_last np sl kd hg p)) 0 0 (fun _ => False) := by
  refine zenterR (cc := cX4_last) (maxL := 2) (ret := (some .int)) (by decide) rfl (Nat.le_of_ble_eq_true rfl) ?_
  intro P E s mt below meth cd ls hx hb hml hown hts hr hlocks hP hK hl
  have hl : lv_has ls 2 [(0, .ref x), (1, .int p)] := hl
  have S0 : CallFix P mt cd cX4_last 2 s [.ref x, .int p].toArray wsX4_last RX4 := ⟨hx, hb, hml, hown, hts⟩
  obtain ⟨hnp, hsl, hkd, hhg, hnr, hru, hrl, hrm, hrd, hla, hmz⟩ := hG
  refine lv_aload_n hx hb dX4_last_0 rfl (lv_at hl 0 rfl) ?_
  refine va_get (D := g.1) (ci := 4) (v := .ref co) (C := RX4) (T := TX4) (N := 6) hx hb hts (fun _ h => (List.mem_cons_of_mem _ (List.mem_append_left _ (List.mem_append_right _ h)))) hown hK.1 hP 0 rfl rfl 1 (by decide) (hts _ (List.mem_of_getElem? (i := 1) rfl)) (fun _ h9 => h9) rfl dX4_last_1 ?_
  refine lv_iload_n hx hb dX4_last_4 rfl (lv_at hl 1 rfl) ?_
  have hPc : PP g (wC g co ck ch cl np sl kd hg lk) _ := (P_sub (w := wC g co ck ch cl np sl kd hg lk) hP [2, 3, 4, 5] rfl)
  refine zcallR (va_runV (As := [.int p]) (rest := []) (b := co) S0 (c_X0_hasPass l g co ck ch cl np sl kd hg lk p hnp) (cwV 1 hts gX4_last_X0_hasPass rfl rfl rfl (by decide +kernel) ⟨by decide, by decide⟩) (zpreV hK hPc (va_recv hK.1 hPc (ci := 0) (q0 := 0) rfl rfl)) rfl rfl hl.1 rfl (lv_room (Nat.le_of_ble_eq_true rfl)) dX4_last_5 ⟨by decide, by decide⟩) (fun r5 h5 => ?_)
  rcases h5 with ⟨w_5, hw_5, hv_5, rfl⟩ | ⟨hn_5, rfl⟩
  · subst hv_5
    refine lv_if_eq (tgt := 22) hx hb dX4_last_8 (by decide) (fun c8 => ?_) (fun c8 => ?_)
    · exact absurd c8 (by decide)
    refine lv_aload_n hx hb dX4_last_11 rfl (lv_at hl 0 rfl) ?_
    refine va_get (D := g.1) (ci := 4) (v := .ref co) (C := RX4) (T := TX4) (N := 6) hx hb hts (fun _ h => (List.mem_cons_of_mem _ (List.mem_append_left _ (List.mem_append_right _ h)))) hown hK.1 hP 0 rfl rfl 1 (by decide) (hts _ (List.mem_of_getElem? (i := 1) rfl)) (fun _ h9 => h9) rfl dX4_last_12 ?_
    refine lv_iload_n hx hb dX4_last_15 rfl (lv_at hl 1 rfl) ?_
    have hPc : PP g (wC g co ck ch cl np sl kd hg lk) _ := (P_sub (w := wC g co ck ch cl np sl kd hg lk) hP [2, 3, 4, 5] rfl)
    refine zcallR (va_runV (As := [.int (nI w_5)]) (rest := []) (b := co) S0 (c_X0_lastGood l g co ck ch cl np sl kd hg lk w_5 hnp hsl hkd hhg (by omega)) (cwV 1 hts gX4_last_X0_lastGood rfl rfl rfl (by decide +kernel) ⟨by decide, by decide⟩) (zpreV hK hPc (va_recv hK.1 hPc (ci := 0) (q0 := 0) rfl rfl)) rfl rfl hl.1 rfl (lv_room (Nat.le_of_ble_eq_true rfl)) dX4_last_16 ⟨by decide, by decide⟩) (fun r16 h16 => ?_)
    subst h16
    refine lv_goto (tgt := 23) hx hb dX4_last_19 (by decide) ?_
    exact zretI hx hb hr hlocks rfl (by rw [sp_last, if_pos (isP_of (by omega) hw_5), tN_nI (u := w_5) (by omega)]) dX4_last_23
  · refine lv_if_eq (tgt := 22) hx hb dX4_last_8 (by decide) (fun c8 => ?_) (fun c8 => ?_)
    rotate_left
    · exact absurd (by decide) c8
    refine lv_iconst (v := (-1)) hx hb dX4_last_22 (by decide) ?_
    exact zretI hx hb hr hlocks rfl (by rw [sp_last, if_neg hn_5]) dX4_last_23

set_option maxHeartbeats 4000000 in
set_option maxRecDepth 100000 in
theorem c_X4_alike (l : Launch) (g : Gx) (x : Nat) (sh : Nat) (co : Nat) (ck : Nat) (ch : Nat) (cl : Nat) (vo : Nat) (vpa : Nat) (vma : Nat) (re : Nat) (rua : Nat) (rla : Nat) (rma : Nat) (rda : Nat) (sad : Nat → Nat) (cad : Nat → Nat) (tr : Int32) (ft : Nat) (np : Nat) (sl : Nat) (kd : Nat → Nat) (hg : Nat → Nat) (lk : Nat → Nat) (vn : Nat) (vp : Nat → Int32) (vm : Nat → Int32) (nr : Nat) (ru : Nat → Nat) (rl : Nat → Nat) (rm : Nat → Nat) (rd : Nat → Nat) (lane : Nat → Nat) (ml : Nat → Nat) (cel : Nat → Nat → Int32) (p : Int32) (hG : Gd np sl kd hg nr ru rl rm rd lane ml) : Met l yX4_alike wsX4_alike ({ frames := 4, cells := 0, slots := 0, locals := 90 } : Room) (PcR g [.ref x, .int p] (wX g x sh co ck ch cl vo vpa vma re rua rla rma rda sad cad tr ft np sl kd hg lk vn vp vm nr ru rl rm rd lane ml cel)) (vp_Si (fun r => r = sp_alike np sl hg p)) 0 0 (fun _ => False) := by
  refine zenterR (cc := cX4_alike) (maxL := 2) (ret := (some .int)) (by decide) rfl (Nat.le_of_ble_eq_true rfl) ?_
  intro P E s mt below meth cd ls hx hb hml hown hts hr hlocks hP hK hl
  have hl : lv_has ls 2 [(0, .ref x), (1, .int p)] := hl
  have S0 : CallFix P mt cd cX4_alike 2 s [.ref x, .int p].toArray wsX4_alike RX4 := ⟨hx, hb, hml, hown, hts⟩
  obtain ⟨hnp, hsl, hkd, hhg, hnr, hru, hrl, hrm, hrd, hla, hmz⟩ := hG
  refine lv_aload_n hx hb dX4_alike_0 rfl (lv_at hl 0 rfl) ?_
  refine va_get (D := g.1) (ci := 4) (v := .ref co) (C := RX4) (T := TX4) (N := 6) hx hb hts (fun _ h => (List.mem_cons_of_mem _ (List.mem_append_left _ (List.mem_append_right _ h)))) hown hK.1 hP 0 rfl rfl 1 (by decide) (hts _ (List.mem_of_getElem? (i := 1) rfl)) (fun _ h9 => h9) rfl dX4_alike_1 ?_
  refine lv_iload_n hx hb dX4_alike_4 rfl (lv_at hl 1 rfl) ?_
  have hPc : PP g (wC g co ck ch cl np sl kd hg lk) _ := (P_sub (w := wC g co ck ch cl np sl kd hg lk) hP [2, 3, 4, 5] rfl)
  refine zcallR (va_runV (As := [.int p]) (rest := []) (b := co) S0 (c_X0_hasPass l g co ck ch cl np sl kd hg lk p hnp) (cwV 1 hts gX4_alike_X0_hasPass rfl rfl rfl (by decide +kernel) ⟨by decide, by decide⟩) (zpreV hK hPc (va_recv hK.1 hPc (ci := 0) (q0 := 0) rfl rfl)) rfl rfl hl.1 rfl (lv_room (Nat.le_of_ble_eq_true rfl)) dX4_alike_5 ⟨by decide, by decide⟩) (fun r5 h5 => ?_)
  rcases h5 with ⟨w_5, hw_5, hv_5, rfl⟩ | ⟨hn_5, rfl⟩
  · subst hv_5
    refine lv_if_eq (tgt := 22) hx hb dX4_alike_8 (by decide) (fun c8 => ?_) (fun c8 => ?_)
    · exact absurd c8 (by decide)
    refine lv_aload_n hx hb dX4_alike_11 rfl (lv_at hl 0 rfl) ?_
    refine va_get (D := g.1) (ci := 4) (v := .ref co) (C := RX4) (T := TX4) (N := 6) hx hb hts (fun _ h => (List.mem_cons_of_mem _ (List.mem_append_left _ (List.mem_append_right _ h)))) hown hK.1 hP 0 rfl rfl 1 (by decide) (hts _ (List.mem_of_getElem? (i := 1) rfl)) (fun _ h9 => h9) rfl dX4_alike_12 ?_
    refine lv_iload_n hx hb dX4_alike_15 rfl (lv_at hl 1 rfl) ?_
    have hPc : PP g (wC g co ck ch cl np sl kd hg lk) _ := (P_sub (w := wC g co ck ch cl np sl kd hg lk) hP [2, 3, 4, 5] rfl)
    refine zcallR (va_runV (As := [.int (nI w_5)]) (rest := []) (b := co) S0 (c_X0_likeness l g co ck ch cl np sl kd hg lk w_5 hnp hsl hhg (by omega)) (cwV 1 hts gX4_alike_X0_likeness rfl rfl rfl (by decide +kernel) ⟨by decide, by decide⟩) (zpreV hK hPc (va_recv hK.1 hPc (ci := 0) (q0 := 0) rfl rfl)) rfl rfl hl.1 rfl (lv_room (Nat.le_of_ble_eq_true rfl)) dX4_alike_16 ⟨by decide, by decide⟩) (fun r16 h16 => ?_)
    subst h16
    have f1 := lset_lt np sl hg w_5
    have f2 := pow_le64 hnp
    refine lv_goto (tgt := 23) hx hb dX4_alike_19 (by decide) ?_
    exact zretI hx hb hr hlocks rfl (by rw [sp_alike, if_pos (isP_of (by omega) hw_5), tN_nI (u := w_5) (by omega)]) dX4_alike_23
  · refine lv_if_eq (tgt := 22) hx hb dX4_alike_8 (by decide) (fun c8 => ?_) (fun c8 => ?_)
    rotate_left
    · exact absurd (by decide) c8
    refine lv_iconst (v := (-1)) hx hb dX4_alike_22 (by decide) ?_
    exact zretI hx hb hr hlocks rfl (by rw [sp_alike, if_neg hn_5]) dX4_alike_23

set_option maxHeartbeats 4000000 in
set_option maxRecDepth 100000 in
theorem c_X4_most (l : Launch) (g : Gx) (x : Nat) (sh : Nat) (co : Nat) (ck : Nat) (ch : Nat) (cl : Nat) (vo : Nat) (vpa : Nat) (vma : Nat) (re : Nat) (rua : Nat) (rla : Nat) (rma : Nat) (rda : Nat) (sad : Nat → Nat) (cad : Nat → Nat) (tr : Int32) (ft : Nat) (np : Nat) (sl : Nat) (kd : Nat → Nat) (hg : Nat → Nat) (lk : Nat → Nat) (vn : Nat) (vp : Nat → Int32) (vm : Nat → Int32) (nr : Nat) (ru : Nat → Nat) (rl : Nat → Nat) (rm : Nat → Nat) (rd : Nat → Nat) (lane : Nat → Nat) (ml : Nat → Nat) (cel : Nat → Nat → Int32) (hG : Gd np sl kd hg nr ru rl rm rd lane ml) : Met l yX4_most wsX4_most ({ frames := 5, cells := 0, slots := 0, locals := 112 } : Room) (PcM g [.ref x] (wX g x sh co ck ch cl vo vpa vma re rua rla rma rda sad cad tr ft np sl kd hg lk vn vp vm nr ru rl rm rd lane ml cel)) (va_Qi (fun (r : Int32) (uu : Nat → Nat) => r = sp_most np sl hg) (fun (uu : Nat → Nat) t => PP g (wX g x sh co ck ch cl vo vpa vma re rua rla rma rda sad cad tr ft np sl kd hg uu vn vp vm nr ru rl rm rd lane ml cel) t.heap) (inW (wX g x sh co ck ch cl vo vpa vma re rua rla rma rda sad cad tr ft np sl kd hg lk vn vp vm nr ru rl rm rd lane ml cel))) 0 0 (inW (wX g x sh co ck ch cl vo vpa vma re rua rla rma rda sad cad tr ft np sl kd hg lk vn vp vm nr ru rl rm rd lane ml cel)) := by
  refine zenterM (cc := cX4_most) (maxL := 1) (ret := (some .int)) (by decide) rfl (Nat.le_of_ble_eq_true rfl) ?_
  intro P E s mt below meth cd ls hx hb hml hown hts hr hlocks hP hK hD hS hl
  skip
  have hl : lv_has ls 1 [(0, .ref x)] := hl
  have S0 : CallFix P mt cd cX4_most 1 s [.ref x].toArray wsX4_most RX4 := ⟨hx, hb, hml, hown, hts⟩
  obtain ⟨hnp, hsl, hkd, hhg, hnr, hru, hrl, hrm, hrd, hla, hmz⟩ := hG
  refine lv_aload_n hx hb dX4_most_0 rfl (lv_at hl 0 rfl) ?_
  refine va_get (D := g.1) (ci := 4) (v := .ref co) (C := RX4) (T := TX4) (N := 6) hx hb hts (fun _ h => (List.mem_cons_of_mem _ (List.mem_append_left _ (List.mem_append_right _ h)))) hown hK.1 hP 0 rfl rfl 1 (by decide) (hts _ (List.mem_of_getElem? (i := 1) rfl)) (fun _ h9 => h9) rfl dX4_most_1 ?_
  have hPc : PP g (wC g co ck ch cl np sl kd hg lk) _ := (P_sub (w := wC g co ck ch cl np sl kd hg lk) hP [2, 3, 4, 5] rfl)
  refine zcallR (va_runV (As := []) (rest := []) (b := co) S0 (c_X0_stands l g co ck ch cl np sl kd hg lk hnp) (cwV 0 hts gX4_most_X0_stands rfl rfl rfl (by decide +kernel) ⟨by decide, by decide⟩) (zpreV hK hPc (va_recv hK.1 hPc (ci := 0) (q0 := 0) rfl rfl)) rfl rfl hl.1 rfl (lv_room (Nat.le_of_ble_eq_true rfl)) dX4_most_4 ⟨by decide, by decide⟩) (fun r4 h4 => ?_)
  subst h4
  have hst := b01_le (0 < np)
  refine n_if_eq (a := (b01 (0 < np))) (tgt := 20) hx hb (by omega) dX4_most_7 (by decide) (fun c7 => ?_) (fun c7 => ?_)
  · refine lv_bipush (v := (-3)) hx hb dX4_most_20 (by decide) ?_
    exact zretMI (w1 := fun (uu : Nat → Nat) => wX g x sh co ck ch cl vo vpa vma re rua rla rma rda sad cad tr ft np sl kd hg uu vn vp vm nr ru rl rm rd lane ml cel) lk hx hb hr hlocks hS rfl (by rw [sp_most, if_neg (b01_0.mp c7)]) hP dX4_most_22
  · refine lv_aload_n hx hb dX4_most_10 rfl (lv_at hl 0 rfl) ?_
    refine va_get (D := g.1) (ci := 4) (v := .ref co) (C := RX4) (T := TX4) (N := 6) hx hb hts (fun _ h => (List.mem_cons_of_mem _ (List.mem_append_left _ (List.mem_append_right _ h)))) hown hK.1 hP 0 rfl rfl 1 (by decide) (hts _ (List.mem_of_getElem? (i := 1) rfl)) (fun _ h9 => h9) rfl dX4_most_11 ?_
    have hPc : PP g (wC g co ck ch cl np sl kd hg lk) _ := P_sub hP [2, 3, 4, 5] rfl
    refine zcallM (w := wC g co ck ch cl np sl kd hg lk) (va_runV (As := []) (rest := []) (b := co) S0 (c_X0_mostUnlike l g co ck ch cl np sl kd hg lk hnp hsl hhg) (cwV 0 hts gX4_most_X0_mostUnlike rfl rfl rfl (by decide +kernel) ⟨by decide, by decide⟩) (zpreVM hK hP hD [2, 3, 4, 5] rfl (by decide) (va_recv hK.1 hPc (ci := 0) (q0 := 0) rfl rfl)) rfl rfl hl.1 rfl (lv_room (Nat.le_of_ble_eq_true rfl)) dX4_most_14 ⟨by decide, by decide⟩) hP hD hS [2, 3, 4, 5] rfl (fun uu14 => wX g x sh co ck ch cl vo vpa vma re rua rla rma rda sad cad tr ft np sl kd hg (fil (lset np sl hg) lk np) vn vp vm nr ru rl rm rd lane ml cel) (fun _ => lz_wC.trans lz_wC.symm) (fun _ => rfl) (fun _ => ad_wX.trans ad_wX.symm) (fun r14 uu14 H locs h14 hP hD hS => ?_)
    subst h14
    have f1 := ms_lt (lset np sl hg) np (Nat.le_refl (2 ^ np)) (Nat.two_pow_pos np)
    have f2 := pow_le64 hnp
    refine lv_goto (tgt := 22) hx hb dX4_most_17 (by decide) ?_
    exact zretMI (w1 := fun (uu : Nat → Nat) => wX g x sh co ck ch cl vo vpa vma re rua rla rma rda sad cad tr ft np sl kd hg uu vn vp vm nr ru rl rm rd lane ml cel) (fil (lset np sl hg) lk np) hx hb hr hlocks hS rfl (by rw [sp_most, if_pos (b01_n0.mp c7)]) hP dX4_most_22

set_option maxHeartbeats 4000000 in
set_option maxRecDepth 100000 in
theorem c_X4_letGo (l : Launch) (g : Gx) (x : Nat) (sh : Nat) (co : Nat) (ck : Nat) (ch : Nat) (cl : Nat) (vo : Nat) (vpa : Nat) (vma : Nat) (re : Nat) (rua : Nat) (rla : Nat) (rma : Nat) (rda : Nat) (sad : Nat → Nat) (cad : Nat → Nat) (tr : Int32) (ft : Nat) (np : Nat) (sl : Nat) (kd : Nat → Nat) (hg : Nat → Nat) (lk : Nat → Nat) (vn : Nat) (vp : Nat → Int32) (vm : Nat → Int32) (nr : Nat) (ru : Nat → Nat) (rl : Nat → Nat) (rm : Nat → Nat) (rd : Nat → Nat) (lane : Nat → Nat) (ml : Nat → Nat) (cel : Nat → Nat → Int32) (set : Int32) (m : Int32) (hG : Gd np sl kd hg nr ru rl rm rd lane ml) : Met l yX4_letGo wsX4_letGo ({ frames := 5, cells := 0, slots := 0, locals := 116 } : Room) (PcM g [.ref x, .int set, .int m] (wX g x sh co ck ch cl vo vpa vma re rua rla rma rda sad cad tr ft np sl kd hg lk vn vp vm nr ru rl rm rd lane ml cel)) (va_Qi (fun (r : Int32) (uu : Nat → Nat) => r = sp_letGo np sl kd hg set m) (fun (uu : Nat → Nat) t => PP g (wX g x sh co ck ch cl vo vpa vma re rua rla rma rda sad cad tr ft np sl kd hg uu vn vp vm nr ru rl rm rd lane ml cel) t.heap) (inW (wX g x sh co ck ch cl vo vpa vma re rua rla rma rda sad cad tr ft np sl kd hg lk vn vp vm nr ru rl rm rd lane ml cel))) 0 0 (inW (wX g x sh co ck ch cl vo vpa vma re rua rla rma rda sad cad tr ft np sl kd hg lk vn vp vm nr ru rl rm rd lane ml cel)) := by
  refine zenterM (cc := cX4_letGo) (maxL := 3) (ret := (some .int)) (by decide) rfl (Nat.le_of_ble_eq_true rfl) ?_
  intro P E s mt below meth cd ls hx hb hml hown hts hr hlocks hP hK hD hS hl
  skip
  have hl : lv_has ls 3 [(0, .ref x), (1, .int set), (2, .int m)] := hl
  have S0 : CallFix P mt cd cX4_letGo 3 s [.ref x, .int set, .int m].toArray wsX4_letGo RX4 := ⟨hx, hb, hml, hown, hts⟩
  obtain ⟨hnp, hsl, hkd, hhg, hnr, hru, hrl, hrm, hrd, hla, hmz⟩ := hG
  refine lv_aload_n hx hb dX4_letGo_0 rfl (lv_at hl 0 rfl) ?_
  refine va_get (D := g.1) (ci := 4) (v := .ref co) (C := RX4) (T := TX4) (N := 6) hx hb hts (fun _ h => (List.mem_cons_of_mem _ (List.mem_append_left _ (List.mem_append_right _ h)))) hown hK.1 hP 0 rfl rfl 1 (by decide) (hts _ (List.mem_of_getElem? (i := 1) rfl)) (fun _ h9 => h9) rfl dX4_letGo_1 ?_
  have hPc : PP g (wC g co ck ch cl np sl kd hg lk) _ := (P_sub (w := wC g co ck ch cl np sl kd hg lk) hP [2, 3, 4, 5] rfl)
  refine zcallR (va_runV (As := []) (rest := []) (b := co) S0 (c_X0_stands l g co ck ch cl np sl kd hg lk hnp) (cwV 0 hts gX4_letGo_X0_stands rfl rfl rfl (by decide +kernel) ⟨by decide, by decide⟩) (zpreV hK hPc (va_recv hK.1 hPc (ci := 0) (q0 := 0) rfl rfl)) rfl rfl hl.1 rfl (lv_room (Nat.le_of_ble_eq_true rfl)) dX4_letGo_4 ⟨by decide, by decide⟩) (fun r4 h4 => ?_)
  subst h4
  have hst := b01_le (0 < np)
  refine n_if_ne (a := (b01 (0 < np))) (tgt := 13) hx hb (by omega) dX4_letGo_7 (by decide) (fun c7 => ?_) (fun c7 => ?_)
  · refine lv_aload_n hx hb dX4_letGo_13 rfl (lv_at hl 0 rfl) ?_
    refine va_get (D := g.1) (ci := 4) (v := .ref co) (C := RX4) (T := TX4) (N := 6) hx hb hts (fun _ h => (List.mem_cons_of_mem _ (List.mem_append_left _ (List.mem_append_right _ h)))) hown hK.1 hP 0 rfl rfl 1 (by decide) (hts _ (List.mem_of_getElem? (i := 1) rfl)) (fun _ h9 => h9) rfl dX4_letGo_14 ?_
    refine lv_iload_n hx hb dX4_letGo_17 rfl (lv_at hl 1 rfl) ?_
    have hPc : PP g (wC g co ck ch cl np sl kd hg lk) _ := (P_sub (w := wC g co ck ch cl np sl kd hg lk) hP [2, 3, 4, 5] rfl)
    refine zcallR (va_runV (As := [.int set]) (rest := []) (b := co) S0 (c_X0_isSet l g co ck ch cl np sl kd hg lk set hnp) (cwV 1 hts gX4_letGo_X0_isSet rfl rfl rfl (by decide +kernel) ⟨by decide, by decide⟩) (zpreV hK hPc (va_recv hK.1 hPc (ci := 0) (q0 := 0) rfl rfl)) rfl rfl hl.1 rfl (lv_room (Nat.le_of_ble_eq_true rfl)) dX4_letGo_18 ⟨by decide, by decide⟩) (fun r18 h18 => ?_)
    rcases h18 with ⟨w_18, hw_18, hv_18, rfl⟩ | ⟨hn_18, rfl⟩
    · subst hv_18
      have h64 := pow_le64 hnp
      refine lv_if_eq (tgt := 31) hx hb dX4_letGo_21 (by decide) (fun c21 => ?_) (fun c21 => ?_)
      · exact absurd c21 (by decide)
      refine lv_iload_n hx hb dX4_letGo_24 rfl (lv_at hl 2 rfl) ?_
      refine zcallR (va_runS (As := [.int m]) (rest := []) S0 (c_X4_isMonths l g m) (va_cwS 1 hts gX4_letGo_X4_isMonths rfl rfl rfl (by decide +kernel) ⟨by decide, by decide⟩) (zpreS hK (P_nil _)) rfl rfl hl.1 rfl (lv_room (Nat.le_of_ble_eq_true rfl)) dX4_letGo_25 ⟨by decide, by decide⟩) (fun r25 h25 => ?_)
      rcases h25 with ⟨w_25, hw_25, hv_25, rfl⟩ | ⟨hn_25, rfl⟩
      · subst hv_25
        refine lv_if_ne (tgt := 34) hx hb dX4_letGo_28 (by decide) (fun c28 => ?_) (fun c28 => ?_)
        rotate_left
        · exact absurd c28 (by decide)
        refine lv_aload_n hx hb dX4_letGo_34 rfl (lv_at hl 0 rfl) ?_
        refine va_get (D := g.1) (ci := 4) (v := .ref co) (C := RX4) (T := TX4) (N := 6) hx hb hts (fun _ h => (List.mem_cons_of_mem _ (List.mem_append_left _ (List.mem_append_right _ h)))) hown hK.1 hP 0 rfl rfl 1 (by decide) (hts _ (List.mem_of_getElem? (i := 1) rfl)) (fun _ h9 => h9) rfl dX4_letGo_35 ?_
        refine lv_iload_n hx hb dX4_letGo_38 rfl (lv_at hl 2 rfl) ?_
        have hPc : PP g (wC g co ck ch cl np sl kd hg lk) _ := P_sub hP [2, 3, 4, 5] rfl
        refine zcallMv (w := wC g co ck ch cl np sl kd hg lk) (va_runV (As := [.int (nI w_25)]) (rest := []) (b := co) S0 (c_X0_layAll l g co ck ch cl np sl kd hg lk w_25 hnp hsl hkd hhg (by omega)) (cwV 1 hts gX4_letGo_X0_layAll rfl rfl rfl (by decide +kernel) ⟨by decide, by decide⟩) (zpreVM hK hP hD [2, 3, 4, 5] rfl (by decide) (va_recv hK.1 hPc (ci := 0) (q0 := 0) rfl rfl)) rfl rfl hl.1 rfl (lv_room (Nat.le_of_ble_eq_true rfl)) dX4_letGo_39 ⟨by decide, by decide⟩) hP hD hS [2, 3, 4, 5] rfl (fun uu39 => wX g x sh co ck ch cl vo vpa vma re rua rla rma rda sad cad tr ft np sl kd hg (fil (fun q => fset np sl kd hg q w_25) lk np) vn vp vm nr ru rl rm rd lane ml cel) (fun _ => lz_wC.trans lz_wC.symm) (fun _ => rfl) (fun _ => ad_wX.trans ad_wX.symm) (fun uu39 H locs h39 hP hD hS => ?_)
        refine lv_aload_n hx hb dX4_letGo_42 rfl (lv_at hl 0 rfl) ?_
        refine va_get (D := g.1) (ci := 4) (v := .ref co) (C := RX4) (T := TX4) (N := 6) hx hb hts (fun _ h => (List.mem_cons_of_mem _ (List.mem_append_left _ (List.mem_append_right _ h)))) hown hK.1 hP 0 rfl rfl 1 (by decide) (hts _ (List.mem_of_getElem? (i := 1) rfl)) (fun _ h9 => h9) rfl dX4_letGo_43 ?_
        refine lv_iload_n hx hb dX4_letGo_46 rfl (lv_at hl 1 rfl) ?_
        have hPc : PP g (wC g co ck ch cl np sl kd hg (fil (fun q => fset np sl kd hg q w_25) lk np)) _ := (P_sub (w := wC g co ck ch cl np sl kd hg (fil (fun q => fset np sl kd hg q w_25) lk np)) hP [2, 3, 4, 5] rfl)
        refine zcallR (va_runV (As := [.int (nI w_18)]) (rest := []) (b := co) S0 (c_X0_freedBy l g co ck ch cl np sl kd hg (fil (fun q => fset np sl kd hg q w_25) lk np) w_18 hnp (by have := pow_le64 hnp; omega)) (cwV 1 hts gX4_letGo_X0_freedBy rfl rfl rfl (by decide +kernel) ⟨by decide, by decide⟩) (zpreV hK hPc (va_recv hK.1 hPc (ci := 0) (q0 := 0) rfl rfl)) rfl rfl hl.1 rfl (lv_room (Nat.le_of_ble_eq_true rfl)) dX4_letGo_47 ⟨by decide, by decide⟩) (fun r47 h47 => ?_)
        subst h47
        have f1 := bset_64 (frb (fil (fun q => fset np sl kd hg q w_25) lk np) w_18) hnp
        refine ztopI (nI (bset (frb (fun q => fset np sl kd hg q w_25) w_18) np)) (by rw [bset_congr (f' := frb (fun q => fset np sl kd hg q w_25) w_18) (fun x hx => by rw [frb, frb, fil_in hx])]) ?_
        exact zretMI (w1 := fun (uu : Nat → Nat) => wX g x sh co ck ch cl vo vpa vma re rua rla rma rda sad cad tr ft np sl kd hg uu vn vp vm nr ru rl rm rd lane ml cel) (fil (fun q => fset np sl kd hg q w_25) lk np) hx hb hr hlocks hS rfl (by rw [sp_letGo, if_pos (b01_n0.mp c7), if_pos ⟨(isP_of (by omega) hw_18), (isP_of (by omega) hw_25)⟩, tN_nI (u := w_18) (by omega), tN_nI (u := w_25) (by omega)]) hP dX4_letGo_50
      · refine lv_if_ne (tgt := 34) hx hb dX4_letGo_28 (by decide) (fun c28 => ?_) (fun c28 => ?_)
        · exact absurd c28 (by decide)
        refine lv_bipush (v := (-2)) hx hb dX4_letGo_31 (by decide) ?_
        exact zretMI (w1 := fun (uu : Nat → Nat) => wX g x sh co ck ch cl vo vpa vma re rua rla rma rda sad cad tr ft np sl kd hg uu vn vp vm nr ru rl rm rd lane ml cel) lk hx hb hr hlocks hS rfl (by rw [sp_letGo, if_pos (b01_n0.mp c7), if_neg (fun z => hn_25 z.2)]) hP dX4_letGo_33
    · refine lv_if_eq (tgt := 31) hx hb dX4_letGo_21 (by decide) (fun c21 => ?_) (fun c21 => ?_)
      rotate_left
      · exact absurd (by decide) c21
      refine lv_bipush (v := (-2)) hx hb dX4_letGo_31 (by decide) ?_
      exact zretMI (w1 := fun (uu : Nat → Nat) => wX g x sh co ck ch cl vo vpa vma re rua rla rma rda sad cad tr ft np sl kd hg uu vn vp vm nr ru rl rm rd lane ml cel) lk hx hb hr hlocks hS rfl (by rw [sp_letGo, if_pos (b01_n0.mp c7), if_neg (fun z => hn_18 z.1)]) hP dX4_letGo_33
  · refine lv_bipush (v := (-3)) hx hb dX4_letGo_10 (by decide) ?_
    exact zretMI (w1 := fun (uu : Nat → Nat) => wX g x sh co ck ch cl vo vpa vma re rua rla rma rda sad cad tr ft np sl kd hg uu vn vp vm nr ru rl rm rd lane ml cel) lk hx hb hr hlocks hS rfl (by rw [sp_letGo, if_neg (b01_0.mp c7)]) hP dX4_letGo_12

set_option maxHeartbeats 4000000 in
set_option maxRecDepth 100000 in
theorem c_X4_fewest (l : Launch) (g : Gx) (x : Nat) (sh : Nat) (co : Nat) (ck : Nat) (ch : Nat) (cl : Nat) (vo : Nat) (vpa : Nat) (vma : Nat) (re : Nat) (rua : Nat) (rla : Nat) (rma : Nat) (rda : Nat) (sad : Nat → Nat) (cad : Nat → Nat) (tr : Int32) (ft : Nat) (np : Nat) (sl : Nat) (kd : Nat → Nat) (hg : Nat → Nat) (lk : Nat → Nat) (vn : Nat) (vp : Nat → Int32) (vm : Nat → Int32) (nr : Nat) (ru : Nat → Nat) (rl : Nat → Nat) (rm : Nat → Nat) (rd : Nat → Nat) (lane : Nat → Nat) (ml : Nat → Nat) (cel : Nat → Nat → Int32) (m : Int32) (hG : Gd np sl kd hg nr ru rl rm rd lane ml) : Met l yX4_fewest wsX4_fewest ({ frames := 5, cells := 0, slots := 0, locals := 116 } : Room) (PcM g [.ref x, .int m] (wX g x sh co ck ch cl vo vpa vma re rua rla rma rda sad cad tr ft np sl kd hg lk vn vp vm nr ru rl rm rd lane ml cel)) (va_Qi (fun (r : Int32) (uu : Nat → Nat) => r = sp_fewest np sl kd hg m) (fun (uu : Nat → Nat) t => PP g (wX g x sh co ck ch cl vo vpa vma re rua rla rma rda sad cad tr ft np sl kd hg uu vn vp vm nr ru rl rm rd lane ml cel) t.heap) (inW (wX g x sh co ck ch cl vo vpa vma re rua rla rma rda sad cad tr ft np sl kd hg lk vn vp vm nr ru rl rm rd lane ml cel))) 0 0 (inW (wX g x sh co ck ch cl vo vpa vma re rua rla rma rda sad cad tr ft np sl kd hg lk vn vp vm nr ru rl rm rd lane ml cel)) := by
  refine zenterM (cc := cX4_fewest) (maxL := 2) (ret := (some .int)) (by decide) rfl (Nat.le_of_ble_eq_true rfl) ?_
  intro P E s mt below meth cd ls hx hb hml hown hts hr hlocks hP hK hD hS hl
  skip
  have hl : lv_has ls 2 [(0, .ref x), (1, .int m)] := hl
  have S0 : CallFix P mt cd cX4_fewest 2 s [.ref x, .int m].toArray wsX4_fewest RX4 := ⟨hx, hb, hml, hown, hts⟩
  obtain ⟨hnp, hsl, hkd, hhg, hnr, hru, hrl, hrm, hrd, hla, hmz⟩ := hG
  refine lv_iload_n hx hb dX4_fewest_0 rfl (lv_at hl 1 rfl) ?_
  refine zcallR (va_runS (As := [.int m]) (rest := []) S0 (c_X4_isMonths l g m) (va_cwS 1 hts gX4_fewest_X4_isMonths rfl rfl rfl (by decide +kernel) ⟨by decide, by decide⟩) (zpreS hK (P_nil _)) rfl rfl hl.1 rfl (lv_room (Nat.le_of_ble_eq_true rfl)) dX4_fewest_1 ⟨by decide, by decide⟩) (fun r1 h1 => ?_)
  rcases h1 with ⟨w_1, hw_1, hv_1, rfl⟩ | ⟨hn_1, rfl⟩
  · subst hv_1
    refine lv_if_ne (tgt := 10) hx hb dX4_fewest_4 (by decide) (fun c4 => ?_) (fun c4 => ?_)
    rotate_left
    · exact absurd c4 (by decide)
    refine lv_aload_n hx hb dX4_fewest_10 rfl (lv_at hl 0 rfl) ?_
    refine va_get (D := g.1) (ci := 4) (v := .ref co) (C := RX4) (T := TX4) (N := 6) hx hb hts (fun _ h => (List.mem_cons_of_mem _ (List.mem_append_left _ (List.mem_append_right _ h)))) hown hK.1 hP 0 rfl rfl 1 (by decide) (hts _ (List.mem_of_getElem? (i := 1) rfl)) (fun _ h9 => h9) rfl dX4_fewest_11 ?_
    have hPc : PP g (wC g co ck ch cl np sl kd hg lk) _ := (P_sub (w := wC g co ck ch cl np sl kd hg lk) hP [2, 3, 4, 5] rfl)
    refine zcallR (va_runV (As := []) (rest := []) (b := co) S0 (c_X0_stands l g co ck ch cl np sl kd hg lk hnp) (cwV 0 hts gX4_fewest_X0_stands rfl rfl rfl (by decide +kernel) ⟨by decide, by decide⟩) (zpreV hK hPc (va_recv hK.1 hPc (ci := 0) (q0 := 0) rfl rfl)) rfl rfl hl.1 rfl (lv_room (Nat.le_of_ble_eq_true rfl)) dX4_fewest_14 ⟨by decide, by decide⟩) (fun r14 h14 => ?_)
    subst h14
    have hst := b01_le (0 < np)
    refine n_if_ne (a := (b01 (0 < np))) (tgt := 23) hx hb (by omega) dX4_fewest_17 (by decide) (fun c17 => ?_) (fun c17 => ?_)
    · refine lv_aload_n hx hb dX4_fewest_23 rfl (lv_at hl 0 rfl) ?_
      refine va_get (D := g.1) (ci := 4) (v := .ref co) (C := RX4) (T := TX4) (N := 6) hx hb hts (fun _ h => (List.mem_cons_of_mem _ (List.mem_append_left _ (List.mem_append_right _ h)))) hown hK.1 hP 0 rfl rfl 1 (by decide) (hts _ (List.mem_of_getElem? (i := 1) rfl)) (fun _ h9 => h9) rfl dX4_fewest_24 ?_
      refine lv_iload_n hx hb dX4_fewest_27 rfl (lv_at hl 1 rfl) ?_
      have hPc : PP g (wC g co ck ch cl np sl kd hg lk) _ := P_sub hP [2, 3, 4, 5] rfl
      refine zcallMv (w := wC g co ck ch cl np sl kd hg lk) (va_runV (As := [.int (nI w_1)]) (rest := []) (b := co) S0 (c_X0_layAll l g co ck ch cl np sl kd hg lk w_1 hnp hsl hkd hhg (by omega)) (cwV 1 hts gX4_fewest_X0_layAll rfl rfl rfl (by decide +kernel) ⟨by decide, by decide⟩) (zpreVM hK hP hD [2, 3, 4, 5] rfl (by decide) (va_recv hK.1 hPc (ci := 0) (q0 := 0) rfl rfl)) rfl rfl hl.1 rfl (lv_room (Nat.le_of_ble_eq_true rfl)) dX4_fewest_28 ⟨by decide, by decide⟩) hP hD hS [2, 3, 4, 5] rfl (fun uu28 => wX g x sh co ck ch cl vo vpa vma re rua rla rma rda sad cad tr ft np sl kd hg (fil (fun q => fset np sl kd hg q w_1) lk np) vn vp vm nr ru rl rm rd lane ml cel) (fun _ => lz_wC.trans lz_wC.symm) (fun _ => rfl) (fun _ => ad_wX.trans ad_wX.symm) (fun uu28 H locs h28 hP hD hS => ?_)
      refine lv_aload_n hx hb dX4_fewest_31 rfl (lv_at hl 0 rfl) ?_
      refine va_get (D := g.1) (ci := 4) (v := .ref co) (C := RX4) (T := TX4) (N := 6) hx hb hts (fun _ h => (List.mem_cons_of_mem _ (List.mem_append_left _ (List.mem_append_right _ h)))) hown hK.1 hP 0 rfl rfl 1 (by decide) (hts _ (List.mem_of_getElem? (i := 1) rfl)) (fun _ h9 => h9) rfl dX4_fewest_32 ?_
      have hPc : PP g (wC g co ck ch cl np sl kd hg (fil (fun q => fset np sl kd hg q w_1) lk np)) _ := (P_sub (w := wC g co ck ch cl np sl kd hg (fil (fun q => fset np sl kd hg q w_1) lk np)) hP [2, 3, 4, 5] rfl)
      refine zcallR (va_runV (As := []) (rest := []) (b := co) S0 (c_X0_fewestFreeing l g co ck ch cl np sl kd hg (fil (fun q => fset np sl kd hg q w_1) lk np) hnp) (cwV 0 hts gX4_fewest_X0_fewestFreeing rfl rfl rfl (by decide +kernel) ⟨by decide, by decide⟩) (zpreV hK hPc (va_recv hK.1 hPc (ci := 0) (q0 := 0) rfl rfl)) rfl rfl hl.1 rfl (lv_room (Nat.le_of_ble_eq_true rfl)) dX4_fewest_35 ⟨by decide, by decide⟩) (fun r35 h35 => ?_)
      subst h35
      refine ztopI (enc (fw (fun q => fset np sl kd hg q w_1) np (2 ^ np))) (by rw [fw_congr (L := fil (fun q => fset np sl kd hg q w_1) lk np) (L' := (fun q => fset np sl kd hg q w_1)) (fun x hx => fil_in hx)]) ?_
      exact zretMI (w1 := fun (uu : Nat → Nat) => wX g x sh co ck ch cl vo vpa vma re rua rla rma rda sad cad tr ft np sl kd hg uu vn vp vm nr ru rl rm rd lane ml cel) (fil (fun q => fset np sl kd hg q w_1) lk np) hx hb hr hlocks hS rfl (by rw [sp_fewest, if_pos (isP_of (by omega) hw_1), if_pos (b01_n0.mp c17), tN_nI (u := w_1) (by omega)]) hP dX4_fewest_38
    · refine lv_bipush (v := (-3)) hx hb dX4_fewest_20 (by decide) ?_
      exact zretMI (w1 := fun (uu : Nat → Nat) => wX g x sh co ck ch cl vo vpa vma re rua rla rma rda sad cad tr ft np sl kd hg uu vn vp vm nr ru rl rm rd lane ml cel) lk hx hb hr hlocks hS rfl (by rw [sp_fewest, if_pos (isP_of (by omega) hw_1), if_neg (b01_0.mp c17)]) hP dX4_fewest_22
  · refine lv_if_ne (tgt := 10) hx hb dX4_fewest_4 (by decide) (fun c4 => ?_) (fun c4 => ?_)
    · exact absurd c4 (by decide)
    refine lv_bipush (v := (-2)) hx hb dX4_fewest_7 (by decide) ?_
    exact zretMI (w1 := fun (uu : Nat → Nat) => wX g x sh co ck ch cl vo vpa vma re rua rla rma rda sad cad tr ft np sl kd hg uu vn vp vm nr ru rl rm rd lane ml cel) lk hx hb hr hlocks hS rfl (by rw [sp_fewest, if_neg hn_1]) hP dX4_fewest_9
