def sM (x : Nat) : Int32 := if x = 3 then -9 else nI x
abbrev wM (g : Gx) (y : Nat) (ya : Nat) (yb : Nat) (yc : Nat) (yd : Nat) (ye : Nat) (yf : Nat) (yg : Nat) (yh : Nat) (yi : Nat) (yj : Nat) (yk : Nat) (yl : Nat) (ft : Nat) (tr : Int32) (lane : Nat → Nat) (ml : Nat → Nat) (cel : Nat → Nat → Int32) (np : Nat) (sl : Nat) (kd : Nat → Nat) (hg : Nat → Nat) (ps : Nat) (rs : Int32) (rn : Nat) (rk : Nat → Int32) (rh : Nat → Int32) (lg : Int32) (fk : Int32) (gt : Int32) (tkn : Nat → Int32) (nr : Nat) (ru : Nat → Nat) (rl : Nat → Nat) (rm : Nat → Nat) (rd : Nat → Nat) : va_W := [(y, .inr (5, [.int (nI ft), .int tr, .ref ya, .ref yb, .ref yc, .int (nI np), .int (nI sl), .ref yd, .ref ye, .int (nI ps), .int rs, .int (nI rn), .ref yf, .ref yg, .int lg, .int fk, .int gt, .ref yh, .int (nI nr), .ref yi, .ref yj, .ref yk, .ref yl])), (ya, .inl (gI g, 4, .inl (fun j => sM (lane j)))), (yb, .inl (gI g, 4, .inl (fun j => nI (ml j)))), (yc, .inl (gI g, 240, .inl (fun j => cel (j / 60) (j % 60)))), (yd, .inl (gI g, 6, .inl (fun j => nI (kd j)))), (ye, .inl (gI g, 18, .inl (fun j => nI (hg j)))), (yf, .inl (gI g, 6, .inl rk)), (yg, .inl (gI g, 18, .inl rh)), (yh, .inl (gI g, 6, .inl tkn)), (yi, .inl (gI g, 8, .inl (fun j => nI (ru j)))), (yj, .inl (gI g, 8, .inl (fun j => nI (rl j)))), (yk, .inl (gI g, 8, .inl (fun j => nI (rm j)))), (yl, .inl (gZ g, 8, .inl (fun j => nI (rd j))))]
theorem ad_wM {g : Gx} {y : Nat} {ya : Nat} {yb : Nat} {yc : Nat} {yd : Nat} {ye : Nat} {yf : Nat} {yg : Nat} {yh : Nat} {yi : Nat} {yj : Nat} {yk : Nat} {yl : Nat} {ft : Nat} {tr : Int32} {lane : Nat → Nat} {ml : Nat → Nat} {cel : Nat → Nat → Int32} {np : Nat} {sl : Nat} {kd : Nat → Nat} {hg : Nat → Nat} {ps : Nat} {rs : Int32} {rn : Nat} {rk : Nat → Int32} {rh : Nat → Int32} {lg : Int32} {fk : Int32} {gt : Int32} {tkn : Nat → Int32} {nr : Nat} {ru : Nat → Nat} {rl : Nat → Nat} {rm : Nat → Nat} {rd : Nat → Nat} : (wM g y ya yb yc yd ye yf yg yh yi yj yk yl ft tr lane ml cel np sl kd hg ps rs rn rk rh lg fk gt tkn nr ru rl rm rd).map (fun x => x.1) = [y, ya, yb, yc, yd, ye, yf, yg, yh, yi, yj, yk, yl] := rfl
theorem lz_wM {g : Gx} {y : Nat} {ya : Nat} {yb : Nat} {yc : Nat} {yd : Nat} {ye : Nat} {yf : Nat} {yg : Nat} {yh : Nat} {yi : Nat} {yj : Nat} {yk : Nat} {yl : Nat} {ft : Nat} {tr : Int32} {lane : Nat → Nat} {ml : Nat → Nat} {cel : Nat → Nat → Int32} {np : Nat} {sl : Nat} {kd : Nat → Nat} {hg : Nat → Nat} {ps : Nat} {rs : Int32} {rn : Nat} {rk : Nat → Int32} {rh : Nat → Int32} {lg : Int32} {fk : Int32} {gt : Int32} {tkn : Nat → Int32} {nr : Nat} {ru : Nat → Nat} {rl : Nat → Nat} {rm : Nat → Nat} {rd : Nat → Nat} : (wM g y ya yb yc yd ye yf yg yh yi yj yk yl ft tr lane ml cel np sl kd hg ps rs rn rk rh lg fk gt tkn nr ru rl rm rd).length = 13 := rfl
theorem lo_ge {a b : Nat} (ha : a < 2 ^ 30) (hb : b < 2 ^ 30) (h : 0 ≤ nI a - nI b) : nI a - nI b = nI (a - b) := by
  rcases Nat.lt_or_ge a b with c | c
  · exact absurd (pk_sneg hb c) (Int32.not_lt.mpr h)
  · exact pk_sub c
theorem lo_lt {a b : Nat} (ha : a < 2 ^ 30) (hb : b < 2 ^ 30) (h : ¬ 0 ≤ nI a - nI b) : nI 0 = nI (a - b) := by
  rcases Nat.lt_or_ge a b with c | c
  · rw [show a - b = 0 by omega]
  · rw [pk_sub c] at h; exact absurd (nI_pos' (by omega)) h
theorem in13 {w : Int32} (h : nI 1 ≤ w ∧ w ≤ nI 3) : ∃ j, (1 ≤ j ∧ j ≤ 3) ∧ w = nI j := by
  obtain ⟨j, hj, rfl⟩ := nI_btw (x := w) (n := 3) (by decide) (fun z => by
    have h1 := h.1
    rw [Int32.lt_iff_toInt_lt] at z
    rw [Int32.le_iff_toInt_le] at h1
    have e0 : (0 : Int32).toInt = 0 := by decide
    have e1 : (nI 1).toInt = 1 := by decide
    omega) h.2
  exact ⟨j, ⟨(nI_leI (by decide) (by omega)).mp h.1, hj⟩, rfl⟩
theorem not13 {w : Int32} (h0 : w ≠ 0) (h : ¬ (nI 1 ≤ w ∧ w ≤ nI 3)) : ¬ isP 4 w := fun z => by
  obtain ⟨j, hj, rfl⟩ := nI_btl (n := 4) (by decide) z.1 z.2
  rcases Nat.eq_zero_or_pos j with e | e
  · rw [e, nI_0] at h0; exact h0 rfl
  · exact h ⟨nI_le (by omega) (by omega), nI_le (by omega) (by omega)⟩
set_option maxHeartbeats 4000000 in
set_option maxRecDepth 100000 in
theorem c_X5_within (l : Launch) (g : Gx) (v : Int32) (a : Int32) (b : Int32) : Met l yX5_within wsX5_within ({ frames := 0, cells := 0, slots := 0, locals := 0 } : Room) (PcR g [.int v, .int a, .int b] (([] : va_W))) (vp_Si (fun r => r = nI (b01 (a ≤ v ∧ v ≤ b)))) 0 0 (fun _ => False) := by
  refine zenterR (cc := cX5_within) (maxL := 3) (ret := (some .boolean)) (by decide) rfl (Nat.le_of_ble_eq_true rfl) ?_
  intro P E s mt below meth cd ls hx hb hml hown hts hr hlocks hP hK hl
  have hl : lv_has ls 3 [(0, .int v), (1, .int a), (2, .int b)] := hl
  have S0 : CallFix P mt cd cX5_within 3 s [.int v, .int a, .int b].toArray wsX5_within RX5 := ⟨hx, hb, hml, hown, hts⟩
  refine lv_iload_n hx hb dX5_within_0 rfl (lv_at hl 0 rfl) ?_
  refine lv_iload_n hx hb dX5_within_1 rfl (lv_at hl 1 rfl) ?_
  refine lv_icmp_lt (tgt := 14) hx hb dX5_within_2 (by decide) (fun c2 => ?_) (fun c2 => ?_)
  · refine lv_iconst (v := (nI 0)) hx hb dX5_within_14 (by decide) ?_
    exact zretI hx hb hr hlocks rfl (by rw [b01_f (fun z => absurd z.1 (i_nle.mpr c2))]) dX5_within_15
  · refine lv_iload_n hx hb dX5_within_5 rfl (lv_at hl 0 rfl) ?_
    refine lv_iload_n hx hb dX5_within_6 rfl (lv_at hl 2 rfl) ?_
    refine lv_icmp_gt (tgt := 14) hx hb dX5_within_7 (by decide) (fun c7 => ?_) (fun c7 => ?_)
    · refine lv_iconst (v := (nI 0)) hx hb dX5_within_14 (by decide) ?_
      exact zretI hx hb hr hlocks rfl (by rw [b01_f (fun z => absurd z.2 (i_nle.mpr c7))]) dX5_within_15
    · refine lv_iconst (v := (nI 1)) hx hb dX5_within_10 (by decide) ?_
      refine lv_goto (tgt := 15) hx hb dX5_within_11 (by decide) ?_
      exact zretI hx hb hr hlocks rfl (by rw [b01_t ⟨i_nlt.mp c2, i_nlt.mp c7⟩]) dX5_within_15

set_option maxHeartbeats 4000000 in
set_option maxRecDepth 100000 in
theorem c_X5_within_r0 (l : Launch) (g : Gx) (v : Int32) (n : Nat) (hn : n + 1 < 2 ^ 31) : Met l yX5_within wsX5_within ({ frames := 0, cells := 0, slots := 0, locals := 0 } : Room) (PcR g [.int v, .int (nI 0), .int (nI n)] (([] : va_W))) (vp_Si (fun r => (∃ w, w < n + 1 ∧ v = nI w ∧ r = nI 1) ∨ (¬ isP (n + 1) v ∧ r = nI 0))) 0 0 (fun _ => False) := by
  refine zenterR (cc := cX5_within) (maxL := 3) (ret := (some .boolean)) (by decide) rfl (Nat.le_of_ble_eq_true rfl) ?_
  intro P E s mt below meth cd ls hx hb hml hown hts hr hlocks hP hK hl
  have hl : lv_has ls 3 [(0, .int v), (1, .int (nI 0)), (2, .int (nI n))] := hl
  have S0 : CallFix P mt cd cX5_within 3 s [.int v, .int (nI 0), .int (nI n)].toArray wsX5_within RX5 := ⟨hx, hb, hml, hown, hts⟩
  refine lv_iload_n hx hb dX5_within_0 rfl (lv_at hl 0 rfl) ?_
  refine lv_iload_n hx hb dX5_within_1 rfl (lv_at hl 1 rfl) ?_
  refine lv_icmp_lt (tgt := 14) hx hb dX5_within_2 (by decide) (fun c2 => ?_) (fun c2 => ?_)
  · refine lv_iconst (v := (nI 0)) hx hb dX5_within_14 (by decide) ?_
    exact zretI hx hb hr hlocks rfl (Or.inr ⟨fun z => z.1 (by rw [nI_0] at c2; exact c2), rfl⟩) dX5_within_15
  · refine lv_iload_n hx hb dX5_within_5 rfl (lv_at hl 0 rfl) ?_
    refine lv_iload_n hx hb dX5_within_6 rfl (lv_at hl 2 rfl) ?_
    refine lv_icmp_gt (tgt := 14) hx hb dX5_within_7 (by decide) (fun c7 => ?_) (fun c7 => ?_)
    · refine lv_iconst (v := (nI 0)) hx hb dX5_within_14 (by decide) ?_
      exact zretI hx hb hr hlocks rfl (Or.inr ⟨fun z => rng_gt hn c7 z, rfl⟩) dX5_within_15
    · refine lv_iconst (v := (nI 1)) hx hb dX5_within_10 (by decide) ?_
      refine lv_goto (tgt := 15) hx hb dX5_within_11 (by decide) ?_
      exact zretI hx hb hr hlocks rfl (by obtain ⟨u, h1, h2⟩ := nI_btw (n := n) (by omega) (by rw [nI_0] at c2; exact c2) (i_nlt.mp c7); exact Or.inl ⟨u, by omega, h2, rfl⟩) dX5_within_15

set_option maxHeartbeats 4000000 in
set_option maxRecDepth 100000 in
theorem c_X5_isSheet (l : Launch) (g : Gx) (v : Int32) : Met l yX5_isSheet wsX5_isSheet ({ frames := 1, cells := 0, slots := 0, locals := 22 } : Room) (PcR g [.int v] (([] : va_W))) (vp_Si (fun r => (∃ w, w < 4 ∧ v = nI w ∧ r = nI 1) ∨ (¬ isP 4 v ∧ r = nI 0))) 0 0 (fun _ => False) := by
  refine zenterR (cc := cX5_isSheet) (maxL := 1) (ret := (some .boolean)) (by decide) rfl (Nat.le_of_ble_eq_true rfl) ?_
  intro P E s mt below meth cd ls hx hb hml hown hts hr hlocks hP hK hl
  have hl : lv_has ls 1 [(0, .int v)] := hl
  have S0 : CallFix P mt cd cX5_isSheet 1 s [.int v].toArray wsX5_isSheet RX5 := ⟨hx, hb, hml, hown, hts⟩
  refine lv_iload_n hx hb dX5_isSheet_0 rfl (lv_at hl 0 rfl) ?_
  refine lv_iconst (v := (nI 0)) hx hb dX5_isSheet_1 (by decide) ?_
  refine lv_iconst (v := (nI 3)) hx hb dX5_isSheet_2 (by decide) ?_
  refine zcallR (va_runS (As := [.int v, .int (nI 0), .int (nI 3)]) (rest := []) S0 (c_X5_within l g v (nI 0) (nI 3)) (va_cwS 3 hts gX5_isSheet_X5_within rfl rfl rfl (by decide +kernel) ⟨by decide, by decide⟩) (zpreS hK (P_nil _)) rfl rfl hl.1 rfl (lv_room (Nat.le_of_ble_eq_true rfl)) dX5_isSheet_3 ⟨by decide, by decide⟩) (fun r3 h3 => ?_)
  subst h3
  exact zretI hx hb hr hlocks (nar_b (b01_le _)) (rng_post 3 (by decide) v) dX5_isSheet_6

set_option maxHeartbeats 4000000 in
set_option maxRecDepth 100000 in
theorem c_X5_isSort (l : Launch) (g : Gx) (v : Int32) : Met l yX5_isSort wsX5_isSort ({ frames := 1, cells := 0, slots := 0, locals := 22 } : Room) (PcR g [.int v] (([] : va_W))) (vp_Si (fun r => (∃ w, w < 3 ∧ v = nI w ∧ r = nI 1) ∨ (¬ isP 3 v ∧ r = nI 0))) 0 0 (fun _ => False) := by
  refine zenterR (cc := cX5_isSort) (maxL := 1) (ret := (some .boolean)) (by decide) rfl (Nat.le_of_ble_eq_true rfl) ?_
  intro P E s mt below meth cd ls hx hb hml hown hts hr hlocks hP hK hl
  have hl : lv_has ls 1 [(0, .int v)] := hl
  have S0 : CallFix P mt cd cX5_isSort 1 s [.int v].toArray wsX5_isSort RX5 := ⟨hx, hb, hml, hown, hts⟩
  refine lv_iload_n hx hb dX5_isSort_0 rfl (lv_at hl 0 rfl) ?_
  refine lv_iconst (v := (nI 0)) hx hb dX5_isSort_1 (by decide) ?_
  refine lv_iconst (v := (nI 2)) hx hb dX5_isSort_2 (by decide) ?_
  refine zcallR (va_runS (As := [.int v, .int (nI 0), .int (nI 2)]) (rest := []) S0 (c_X5_within l g v (nI 0) (nI 2)) (va_cwS 3 hts gX5_isSort_X5_within rfl rfl rfl (by decide +kernel) ⟨by decide, by decide⟩) (zpreS hK (P_nil _)) rfl rfl hl.1 rfl (lv_room (Nat.le_of_ble_eq_true rfl)) dX5_isSort_3 ⟨by decide, by decide⟩) (fun r3 h3 => ?_)
  subst h3
  exact zretI hx hb hr hlocks (nar_b (b01_le _)) (rng_post 2 (by decide) v) dX5_isSort_6

set_option maxHeartbeats 4000000 in
set_option maxRecDepth 100000 in
theorem c_X5_isPlace (l : Launch) (g : Gx) (v : Int32) : Met l yX5_isPlace wsX5_isPlace ({ frames := 1, cells := 0, slots := 0, locals := 22 } : Room) (PcR g [.int v] (([] : va_W))) (vp_Si (fun r => (∃ w, w < 3 ∧ v = nI w ∧ r = nI 1) ∨ (¬ isP 3 v ∧ r = nI 0))) 0 0 (fun _ => False) := by
  refine zenterR (cc := cX5_isPlace) (maxL := 1) (ret := (some .boolean)) (by decide) rfl (Nat.le_of_ble_eq_true rfl) ?_
  intro P E s mt below meth cd ls hx hb hml hown hts hr hlocks hP hK hl
  have hl : lv_has ls 1 [(0, .int v)] := hl
  have S0 : CallFix P mt cd cX5_isPlace 1 s [.int v].toArray wsX5_isPlace RX5 := ⟨hx, hb, hml, hown, hts⟩
  refine lv_iload_n hx hb dX5_isPlace_0 rfl (lv_at hl 0 rfl) ?_
  refine lv_iconst (v := (nI 0)) hx hb dX5_isPlace_1 (by decide) ?_
  refine lv_iconst (v := (nI 2)) hx hb dX5_isPlace_2 (by decide) ?_
  refine zcallR (va_runS (As := [.int v, .int (nI 0), .int (nI 2)]) (rest := []) S0 (c_X5_within l g v (nI 0) (nI 2)) (va_cwS 3 hts gX5_isPlace_X5_within rfl rfl rfl (by decide +kernel) ⟨by decide, by decide⟩) (zpreS hK (P_nil _)) rfl rfl hl.1 rfl (lv_room (Nat.le_of_ble_eq_true rfl)) dX5_isPlace_3 ⟨by decide, by decide⟩) (fun r3 h3 => ?_)
  subst h3
  exact zretI hx hb hr hlocks (nar_b (b01_le _)) (rng_post 2 (by decide) v) dX5_isPlace_6

set_option maxHeartbeats 4000000 in
set_option maxRecDepth 100000 in
theorem c_X5_isDigit (l : Launch) (g : Gx) (v : Int32) : Met l yX5_isDigit wsX5_isDigit ({ frames := 1, cells := 0, slots := 0, locals := 22 } : Room) (PcR g [.int v] (([] : va_W))) (vp_Si (fun r => (∃ w, w < 10 ∧ v = nI w ∧ r = nI 1) ∨ (¬ isP 10 v ∧ r = nI 0))) 0 0 (fun _ => False) := by
  refine zenterR (cc := cX5_isDigit) (maxL := 1) (ret := (some .boolean)) (by decide) rfl (Nat.le_of_ble_eq_true rfl) ?_
  intro P E s mt below meth cd ls hx hb hml hown hts hr hlocks hP hK hl
  have hl : lv_has ls 1 [(0, .int v)] := hl
  have S0 : CallFix P mt cd cX5_isDigit 1 s [.int v].toArray wsX5_isDigit RX5 := ⟨hx, hb, hml, hown, hts⟩
  refine lv_iload_n hx hb dX5_isDigit_0 rfl (lv_at hl 0 rfl) ?_
  refine lv_iconst (v := (nI 0)) hx hb dX5_isDigit_1 (by decide) ?_
  refine lv_bipush (v := (nI 9)) hx hb dX5_isDigit_2 (by decide) ?_
  refine zcallR (va_runS (As := [.int v, .int (nI 0), .int (nI 9)]) (rest := []) S0 (c_X5_within l g v (nI 0) (nI 9)) (va_cwS 3 hts gX5_isDigit_X5_within rfl rfl rfl (by decide +kernel) ⟨by decide, by decide⟩) (zpreS hK (P_nil _)) rfl rfl hl.1 rfl (lv_room (Nat.le_of_ble_eq_true rfl)) dX5_isDigit_4 ⟨by decide, by decide⟩) (fun r4 h4 => ?_)
  subst h4
  exact zretI hx hb hr hlocks (nar_b (b01_le _)) (rng_post 9 (by decide) v) dX5_isDigit_7

set_option maxHeartbeats 4000000 in
set_option maxRecDepth 100000 in
theorem c_X5_isPass (l : Launch) (g : Gx) (y : Nat) (ya : Nat) (yb : Nat) (yc : Nat) (yd : Nat) (ye : Nat) (yf : Nat) (yg : Nat) (yh : Nat) (yi : Nat) (yj : Nat) (yk : Nat) (yl : Nat) (ft : Nat) (tr : Int32) (lane : Nat → Nat) (ml : Nat → Nat) (cel : Nat → Nat → Int32) (np : Nat) (sl : Nat) (kd : Nat → Nat) (hg : Nat → Nat) (ps : Nat) (rs : Int32) (rn : Nat) (rk : Nat → Int32) (rh : Nat → Int32) (lg : Int32) (fk : Int32) (gt : Int32) (tkn : Nat → Int32) (nr : Nat) (ru : Nat → Nat) (rl : Nat → Nat) (rm : Nat → Nat) (rd : Nat → Nat) (p : Int32) (hnp : np ≤ 6) : Met l yX5_isPass wsX5_isPass ({ frames := 0, cells := 0, slots := 0, locals := 0 } : Room) (PcR g [.ref y, .int p] (wM g y ya yb yc yd ye yf yg yh yi yj yk yl ft tr lane ml cel np sl kd hg ps rs rn rk rh lg fk gt tkn nr ru rl rm rd)) (vp_Si (fun r => (∃ u, u < np ∧ p = nI u ∧ r = nI 1) ∨ (¬ isP np p ∧ r = nI 0))) 0 0 (fun _ => False) := by
  refine zenterR (cc := cX5_isPass) (maxL := 2) (ret := (some .boolean)) (by decide) rfl (Nat.le_of_ble_eq_true rfl) ?_
  intro P E s mt below meth cd ls hx hb hml hown hts hr hlocks hP hK hl
  have hl : lv_has ls 2 [(0, .ref y), (1, .int p)] := hl
  have S0 : CallFix P mt cd cX5_isPass 2 s [.ref y, .int p].toArray wsX5_isPass RX5 := ⟨hx, hb, hml, hown, hts⟩
  refine lv_iload_n hx hb dX5_isPass_0 rfl (lv_at hl 1 rfl) ?_
  refine lv_if_lt (tgt := 16) hx hb dX5_isPass_1 (by decide) (fun c1 => ?_) (fun c1 => ?_)
  · refine lv_iconst (v := (nI 0)) hx hb dX5_isPass_16 (by decide) ?_
    exact zretI hx hb hr hlocks rfl (Or.inr ⟨fun z => z.1 c1, rfl⟩) dX5_isPass_17
  · refine lv_iload_n hx hb dX5_isPass_4 rfl (lv_at hl 1 rfl) ?_
    refine lv_aload_n hx hb dX5_isPass_5 rfl (lv_at hl 0 rfl) ?_
    refine va_get (D := g.1) (ci := 5) (v := .int (nI np)) (C := RX5) (T := TX5) (N := 23) hx hb hts (fun _ h => (List.mem_cons_of_mem _ (List.mem_append_right _ h))) hown hK.1 hP 0 rfl rfl 5 (by decide) (hts _ (List.mem_of_getElem? (i := 1) rfl)) (fun _ h9 => h9) rfl dX5_isPass_6 ?_
    refine lv_icmp_ge (tgt := 16) hx hb dX5_isPass_9 (by decide) (fun c9 => ?_) (fun c9 => ?_)
    · refine lv_iconst (v := (nI 0)) hx hb dX5_isPass_16 (by decide) ?_
      exact zretI hx hb hr hlocks rfl (Or.inr ⟨fun z => absurd z.2 (i_nlt.mpr c9), rfl⟩) dX5_isPass_17
    · refine lv_iconst (v := (nI 1)) hx hb dX5_isPass_12 (by decide) ?_
      refine lv_goto (tgt := 17) hx hb dX5_isPass_13 (by decide) ?_
      exact zretI hx hb hr hlocks rfl (by obtain ⟨u, h1, h2⟩ := nI_btl (n := np) (by omega) c1 (i_nle.mp c9); exact Or.inl ⟨u, h1, h2, rfl⟩) dX5_isPass_17

set_option maxHeartbeats 4000000 in
set_option maxRecDepth 100000 in
theorem c_X5_isSet (l : Launch) (g : Gx) (y : Nat) (ya : Nat) (yb : Nat) (yc : Nat) (yd : Nat) (ye : Nat) (yf : Nat) (yg : Nat) (yh : Nat) (yi : Nat) (yj : Nat) (yk : Nat) (yl : Nat) (ft : Nat) (tr : Int32) (lane : Nat → Nat) (ml : Nat → Nat) (cel : Nat → Nat → Int32) (np : Nat) (sl : Nat) (kd : Nat → Nat) (hg : Nat → Nat) (ps : Nat) (rs : Int32) (rn : Nat) (rk : Nat → Int32) (rh : Nat → Int32) (lg : Int32) (fk : Int32) (gt : Int32) (tkn : Nat → Int32) (nr : Nat) (ru : Nat → Nat) (rl : Nat → Nat) (rm : Nat → Nat) (rd : Nat → Nat) (set : Int32) (hnp : np ≤ 6) : Met l yX5_isSet wsX5_isSet ({ frames := 0, cells := 0, slots := 0, locals := 0 } : Room) (PcR g [.ref y, .int set] (wM g y ya yb yc yd ye yf yg yh yi yj yk yl ft tr lane ml cel np sl kd hg ps rs rn rk rh lg fk gt tkn nr ru rl rm rd)) (vp_Si (fun r => (∃ b, b < 2 ^ np ∧ set = nI b ∧ r = nI 1) ∨ (¬ isP (2 ^ np) set ∧ r = nI 0))) 0 0 (fun _ => False) := by
  refine zenterR (cc := cX5_isSet) (maxL := 2) (ret := (some .boolean)) (by decide) rfl (Nat.le_of_ble_eq_true rfl) ?_
  intro P E s mt below meth cd ls hx hb hml hown hts hr hlocks hP hK hl
  have hl : lv_has ls 2 [(0, .ref y), (1, .int set)] := hl
  have S0 : CallFix P mt cd cX5_isSet 2 s [.ref y, .int set].toArray wsX5_isSet RX5 := ⟨hx, hb, hml, hown, hts⟩
  refine lv_iload_n hx hb dX5_isSet_0 rfl (lv_at hl 1 rfl) ?_
  refine lv_if_lt (tgt := 18) hx hb dX5_isSet_1 (by decide) (fun c1 => ?_) (fun c1 => ?_)
  · refine lv_iconst (v := (nI 0)) hx hb dX5_isSet_18 (by decide) ?_
    exact zretI hx hb hr hlocks rfl (Or.inr ⟨fun z => z.1 c1, rfl⟩) dX5_isSet_19
  · refine lv_iload_n hx hb dX5_isSet_4 rfl (lv_at hl 1 rfl) ?_
    refine lv_iconst (v := (nI 1)) hx hb dX5_isSet_5 (by decide) ?_
    refine lv_aload_n hx hb dX5_isSet_6 rfl (lv_at hl 0 rfl) ?_
    refine va_get (D := g.1) (ci := 5) (v := .int (nI np)) (C := RX5) (T := TX5) (N := 23) hx hb hts (fun _ h => (List.mem_cons_of_mem _ (List.mem_append_right _ h))) hown hK.1 hP 0 rfl rfl 5 (by decide) (hts _ (List.mem_of_getElem? (i := 1) rfl)) (fun _ h9 => h9) rfl dX5_isSet_7 ?_
    refine n_ishl1 (n := np) hx hb (by omega) dX5_isSet_10 ?_
    refine lv_icmp_ge (tgt := 18) hx hb dX5_isSet_11 (by decide) (fun c11 => ?_) (fun c11 => ?_)
    · refine lv_iconst (v := (nI 0)) hx hb dX5_isSet_18 (by decide) ?_
      exact zretI hx hb hr hlocks rfl (Or.inr ⟨fun z => absurd z.2 (i_nlt.mpr c11), rfl⟩) dX5_isSet_19
    · refine lv_iconst (v := (nI 1)) hx hb dX5_isSet_14 (by decide) ?_
      refine lv_goto (tgt := 19) hx hb dX5_isSet_15 (by decide) ?_
      exact zretI hx hb hr hlocks rfl (by have h6 := pow_le64 hnp; obtain ⟨u, h1, h2⟩ := nI_btl (n := 2 ^ np) (by omega) c1 (i_nle.mp c11); exact Or.inl ⟨u, h1, h2, rfl⟩) dX5_isSet_19

set_option maxHeartbeats 4000000 in
set_option maxRecDepth 100000 in
theorem c_X5_lower (l : Launch) (g : Gx) (y : Nat) (ya : Nat) (yb : Nat) (yc : Nat) (yd : Nat) (ye : Nat) (yf : Nat) (yg : Nat) (yh : Nat) (yi : Nat) (yj : Nat) (yk : Nat) (yl : Nat) (ft : Nat) (tr : Int32) (lane : Nat → Nat) (ml : Nat → Nat) (cel : Nat → Nat → Int32) (np : Nat) (sl : Nat) (kd : Nat → Nat) (hg : Nat → Nat) (ps : Nat) (rs : Int32) (rn : Nat) (rk : Nat → Int32) (rh : Nat → Int32) (lg : Int32) (fk : Int32) (gt : Int32) (tkn : Nat → Int32) (nr : Nat) (ru : Nat → Nat) (rl : Nat → Nat) (rm : Nat → Nat) (rd : Nat → Nat) (u : Nat) (k : Nat) (m : Nat) (hnp : np ≤ 6) (hkd : ∀ j, kd j ≤ 2) (hhg : ∀ j, hg j ≤ 9) (hu : u < np) (hk : k < 3) (hm : m ≤ 9) : Met l yX5_lower wsX5_lower ({ frames := 0, cells := 0, slots := 0, locals := 0 } : Room) (PcR g [.ref y, .int (nI u), .int (nI k), .int (nI m)] (wM g y ya yb yc yd ye yf yg yh yi yj yk yl ft tr lane ml cel np sl kd hg ps rs rn rk rh lg fk gt tkn nr ru rl rm rd)) (vp_Si (fun r => r = nI (lo kd hg u k m))) 0 0 (fun _ => False) := by
  refine zenterR (cc := cX5_lower) (maxL := 6) (ret := (some .int)) (by decide) rfl (Nat.le_of_ble_eq_true rfl) ?_
  intro P E s mt below meth cd ls hx hb hml hown hts hr hlocks hP hK hl
  have hl : lv_has ls 6 [(0, .ref y), (1, .int (nI u)), (2, .int (nI k)), (3, .int (nI m))] := hl
  have S0 : CallFix P mt cd cX5_lower 6 s [.ref y, .int (nI u), .int (nI k), .int (nI m)].toArray wsX5_lower RX5 := ⟨hx, hb, hml, hown, hts⟩
  refine lv_aload_n hx hb dX5_lower_0 rfl (lv_at hl 0 rfl) ?_
  refine va_get (D := g.1) (ci := 5) (v := .ref yd) (C := RX5) (T := TX5) (N := 23) hx hb hts (fun _ h => (List.mem_cons_of_mem _ (List.mem_append_right _ h))) hown hK.1 hP 0 rfl rfl 7 (by decide) (hts _ (List.mem_of_getElem? (i := 1) rfl)) (fun _ h9 => h9) rfl dX5_lower_1 ?_
  refine lv_iload_n hx hb dX5_lower_4 rfl (lv_at hl 1 rfl) ?_
  refine n_iald (i := u) (v := (nI (kd u))) hx hb hK.1 hP 4 0 rfl rfl (by omega) (by decide) rfl dX5_lower_5 ?_
  have f1 := hkd u
  refine n_if_ne (a := (kd u)) (tgt := 13) hx hb (by omega) dX5_lower_6 (by decide) (fun c6 => ?_) (fun c6 => ?_)
  · refine lv_aload_n hx hb dX5_lower_13 rfl (lv_at hl 0 rfl) ?_
    refine va_get (D := g.1) (ci := 5) (v := .ref yd) (C := RX5) (T := TX5) (N := 23) hx hb hts (fun _ h => (List.mem_cons_of_mem _ (List.mem_append_right _ h))) hown hK.1 hP 0 rfl rfl 7 (by decide) (hts _ (List.mem_of_getElem? (i := 1) rfl)) (fun _ h9 => h9) rfl dX5_lower_14 ?_
    refine lv_iload_n hx hb dX5_lower_17 rfl (lv_at hl 1 rfl) ?_
    refine n_iald (i := u) (v := (nI (kd u))) hx hb hK.1 hP 4 0 rfl rfl (by omega) (by decide) rfl dX5_lower_18 ?_
    have f2 := hkd u
    refine lv_iconst (v := (nI 1)) hx hb dX5_lower_19 (by decide) ?_
    refine n_icmp_ne (a := (kd u)) (b := 1) (tgt := 29) hx hb (by omega) (by omega) dX5_lower_20 (by decide) (fun c20 => ?_) (fun c20 => ?_)
    · refine lv_iconst (v := (nI 2)) hx hb dX5_lower_29 (by decide) ?_
      refine lv_iload_n hx hb dX5_lower_30 rfl (lv_at hl 3 rfl) ?_
      refine n_imul (a := 2) (b := m) hx hb dX5_lower_31 ?_
      refine ztopI (nI (wr (kd u) m)) (by rw [show kd u = 2 by omega]; rfl) ?_
      refine lv_istore (lv' := [(4, .int (nI (wr (kd u) m))), (0, .ref y), (1, .int (nI u)), (2, .int (nI k)), (3, .int (nI m))]) hx hb dX5_lower_32 hl (by decide) rfl (fun ls hl => ?_)
      refine lv_aload_n hx hb dX5_lower_34 rfl (lv_at hl 1 rfl) ?_
      refine va_get (D := g.1) (ci := 5) (v := .ref ye) (C := RX5) (T := TX5) (N := 23) hx hb hts (fun _ h => (List.mem_cons_of_mem _ (List.mem_append_right _ h))) hown hK.1 hP 0 rfl rfl 8 (by decide) (hts _ (List.mem_of_getElem? (i := 2) rfl)) (fun _ h9 => h9) rfl dX5_lower_35 ?_
      refine lv_iconst (v := (nI 3)) hx hb dX5_lower_38 (by decide) ?_
      refine lv_iload_n hx hb dX5_lower_39 rfl (lv_at hl 2 rfl) ?_
      refine n_imul (a := 3) (b := u) hx hb dX5_lower_40 ?_
      refine lv_iload_n hx hb dX5_lower_41 rfl (lv_at hl 3 rfl) ?_
      refine n_iadd (a := (3 * u)) (b := k) hx hb dX5_lower_42 ?_
      refine n_iald (i := ((3 * u) + k)) (v := (nI (hg ((3 * u) + k)))) hx hb hK.1 hP 5 0 rfl rfl (by omega) (by decide) rfl dX5_lower_43 ?_
      have f3 := hhg ((3 * u) + k)
      refine lv_iload hx hb dX5_lower_44 (lv_at hl 0 rfl) ?_
      refine lv_isub hx hb dX5_lower_46 ?_
      refine lv_istore (lv' := [(5, .int ((nI (hg ((3 * u) + k))) - (nI (wr (kd u) m)))), (4, .int (nI (wr (kd u) m))), (0, .ref y), (1, .int (nI u)), (2, .int (nI k)), (3, .int (nI m))]) hx hb dX5_lower_47 hl (by decide) rfl (fun ls hl => ?_)
      refine lv_iload hx hb dX5_lower_49 (lv_at hl 0 rfl) ?_
      refine lv_if_ge (tgt := 58) hx hb dX5_lower_51 (by decide) (fun c51 => ?_) (fun c51 => ?_)
      · refine lv_iload hx hb dX5_lower_58 (lv_at hl 0 rfl) ?_
        refine ztopI (nI (lo kd hg u k m)) (lo_ge (by have := hhg (3 * u + k); omega) (by have := wr_le (k := kd u) hm; omega) c51) ?_
        exact zretI hx hb hr hlocks rfl (by rfl) dX5_lower_60
      · refine lv_iconst (v := (nI 0)) hx hb dX5_lower_54 (by decide) ?_
        refine ztopI (nI (lo kd hg u k m)) (lo_lt (by have := hhg (3 * u + k); omega) (by have := wr_le (k := kd u) hm; omega) c51) ?_
        refine lv_goto (tgt := 60) hx hb dX5_lower_55 (by decide) ?_
        exact zretI hx hb hr hlocks rfl (by rfl) dX5_lower_60
    · refine lv_iload_n hx hb dX5_lower_23 rfl (lv_at hl 3 rfl) ?_
      refine lv_iconst (v := (nI 1)) hx hb dX5_lower_24 (by decide) ?_
      refine n_iadd (a := m) (b := 1) hx hb dX5_lower_25 ?_
      refine ztopI (nI (wr (kd u) m)) (by rw [c20]; rfl) ?_
      refine lv_goto (tgt := 32) hx hb dX5_lower_26 (by decide) ?_
      refine lv_istore (lv' := [(4, .int (nI (wr (kd u) m))), (0, .ref y), (1, .int (nI u)), (2, .int (nI k)), (3, .int (nI m))]) hx hb dX5_lower_32 hl (by decide) rfl (fun ls hl => ?_)
      refine lv_aload_n hx hb dX5_lower_34 rfl (lv_at hl 1 rfl) ?_
      refine va_get (D := g.1) (ci := 5) (v := .ref ye) (C := RX5) (T := TX5) (N := 23) hx hb hts (fun _ h => (List.mem_cons_of_mem _ (List.mem_append_right _ h))) hown hK.1 hP 0 rfl rfl 8 (by decide) (hts _ (List.mem_of_getElem? (i := 2) rfl)) (fun _ h9 => h9) rfl dX5_lower_35 ?_
      refine lv_iconst (v := (nI 3)) hx hb dX5_lower_38 (by decide) ?_
      refine lv_iload_n hx hb dX5_lower_39 rfl (lv_at hl 2 rfl) ?_
      refine n_imul (a := 3) (b := u) hx hb dX5_lower_40 ?_
      refine lv_iload_n hx hb dX5_lower_41 rfl (lv_at hl 3 rfl) ?_
      refine n_iadd (a := (3 * u)) (b := k) hx hb dX5_lower_42 ?_
      refine n_iald (i := ((3 * u) + k)) (v := (nI (hg ((3 * u) + k)))) hx hb hK.1 hP 5 0 rfl rfl (by omega) (by decide) rfl dX5_lower_43 ?_
      have f4 := hhg ((3 * u) + k)
      refine lv_iload hx hb dX5_lower_44 (lv_at hl 0 rfl) ?_
      refine lv_isub hx hb dX5_lower_46 ?_
      refine lv_istore (lv' := [(5, .int ((nI (hg ((3 * u) + k))) - (nI (wr (kd u) m)))), (4, .int (nI (wr (kd u) m))), (0, .ref y), (1, .int (nI u)), (2, .int (nI k)), (3, .int (nI m))]) hx hb dX5_lower_47 hl (by decide) rfl (fun ls hl => ?_)
      refine lv_iload hx hb dX5_lower_49 (lv_at hl 0 rfl) ?_
      refine lv_if_ge (tgt := 58) hx hb dX5_lower_51 (by decide) (fun c51 => ?_) (fun c51 => ?_)
      · refine lv_iload hx hb dX5_lower_58 (lv_at hl 0 rfl) ?_
        refine ztopI (nI (lo kd hg u k m)) (lo_ge (by have := hhg (3 * u + k); omega) (by have := wr_le (k := kd u) hm; omega) c51) ?_
        exact zretI hx hb hr hlocks rfl (by rfl) dX5_lower_60
      · refine lv_iconst (v := (nI 0)) hx hb dX5_lower_54 (by decide) ?_
        refine ztopI (nI (lo kd hg u k m)) (lo_lt (by have := hhg (3 * u + k); omega) (by have := wr_le (k := kd u) hm; omega) c51) ?_
        refine lv_goto (tgt := 60) hx hb dX5_lower_55 (by decide) ?_
        exact zretI hx hb hr hlocks rfl (by rfl) dX5_lower_60
  · refine lv_iload_n hx hb dX5_lower_9 rfl (lv_at hl 3 rfl) ?_
    refine ztopI (nI (wr (kd u) m)) (by rw [c6]; rfl) ?_
    refine lv_goto (tgt := 32) hx hb dX5_lower_10 (by decide) ?_
    refine lv_istore (lv' := [(4, .int (nI (wr (kd u) m))), (0, .ref y), (1, .int (nI u)), (2, .int (nI k)), (3, .int (nI m))]) hx hb dX5_lower_32 hl (by decide) rfl (fun ls hl => ?_)
    refine lv_aload_n hx hb dX5_lower_34 rfl (lv_at hl 1 rfl) ?_
    refine va_get (D := g.1) (ci := 5) (v := .ref ye) (C := RX5) (T := TX5) (N := 23) hx hb hts (fun _ h => (List.mem_cons_of_mem _ (List.mem_append_right _ h))) hown hK.1 hP 0 rfl rfl 8 (by decide) (hts _ (List.mem_of_getElem? (i := 2) rfl)) (fun _ h9 => h9) rfl dX5_lower_35 ?_
    refine lv_iconst (v := (nI 3)) hx hb dX5_lower_38 (by decide) ?_
    refine lv_iload_n hx hb dX5_lower_39 rfl (lv_at hl 2 rfl) ?_
    refine n_imul (a := 3) (b := u) hx hb dX5_lower_40 ?_
    refine lv_iload_n hx hb dX5_lower_41 rfl (lv_at hl 3 rfl) ?_
    refine n_iadd (a := (3 * u)) (b := k) hx hb dX5_lower_42 ?_
    refine n_iald (i := ((3 * u) + k)) (v := (nI (hg ((3 * u) + k)))) hx hb hK.1 hP 5 0 rfl rfl (by omega) (by decide) rfl dX5_lower_43 ?_
    have f5 := hhg ((3 * u) + k)
    refine lv_iload hx hb dX5_lower_44 (lv_at hl 0 rfl) ?_
    refine lv_isub hx hb dX5_lower_46 ?_
    refine lv_istore (lv' := [(5, .int ((nI (hg ((3 * u) + k))) - (nI (wr (kd u) m)))), (4, .int (nI (wr (kd u) m))), (0, .ref y), (1, .int (nI u)), (2, .int (nI k)), (3, .int (nI m))]) hx hb dX5_lower_47 hl (by decide) rfl (fun ls hl => ?_)
    refine lv_iload hx hb dX5_lower_49 (lv_at hl 0 rfl) ?_
    refine lv_if_ge (tgt := 58) hx hb dX5_lower_51 (by decide) (fun c51 => ?_) (fun c51 => ?_)
    · refine lv_iload hx hb dX5_lower_58 (lv_at hl 0 rfl) ?_
      refine ztopI (nI (lo kd hg u k m)) (lo_ge (by have := hhg (3 * u + k); omega) (by have := wr_le (k := kd u) hm; omega) c51) ?_
      exact zretI hx hb hr hlocks rfl (by rfl) dX5_lower_60
    · refine lv_iconst (v := (nI 0)) hx hb dX5_lower_54 (by decide) ?_
      refine ztopI (nI (lo kd hg u k m)) (lo_lt (by have := hhg (3 * u + k); omega) (by have := wr_le (k := kd u) hm; omega) c51) ?_
      refine lv_goto (tgt := 60) hx hb dX5_lower_55 (by decide) ?_
      exact zretI hx hb hr hlocks rfl (by rfl) dX5_lower_60

set_option maxHeartbeats 4000000 in
set_option maxRecDepth 100000 in
theorem c_X5_apart (l : Launch) (g : Gx) (a : Nat) (b : Nat) (ha1 : a < 2 ^ 30) (hb1 : b < 2 ^ 30) : Met l yX5_apart wsX5_apart ({ frames := 0, cells := 0, slots := 0, locals := 0 } : Room) (PcR g [.int (nI a), .int (nI b)] (([] : va_W))) (vp_Si (fun r => r = nI (dst a b))) 0 0 (fun _ => False) := by
  refine zenterR (cc := cX5_apart) (maxL := 2) (ret := (some .int)) (by decide) rfl (Nat.le_of_ble_eq_true rfl) ?_
  intro P E s mt below meth cd ls hx hb hml hown hts hr hlocks hP hK hl
  have hl : lv_has ls 2 [(0, .int (nI a)), (1, .int (nI b))] := hl
  have S0 : CallFix P mt cd cX5_apart 2 s [.int (nI a), .int (nI b)].toArray wsX5_apart RX5 := ⟨hx, hb, hml, hown, hts⟩
  refine lv_iload_n hx hb dX5_apart_0 rfl (lv_at hl 0 rfl) ?_
  refine lv_iload_n hx hb dX5_apart_1 rfl (lv_at hl 1 rfl) ?_
  refine n_icmp_ge (a := a) (b := b) (tgt := 11) hx hb (by omega) (by omega) dX5_apart_2 (by decide) (fun c2 => ?_) (fun c2 => ?_)
  · refine lv_iload_n hx hb dX5_apart_11 rfl (lv_at hl 0 rfl) ?_
    refine lv_iload_n hx hb dX5_apart_12 rfl (lv_at hl 1 rfl) ?_
    refine n_isub (a := a) (b := b) hx hb (by omega) dX5_apart_13 ?_
    exact zretI hx hb hr hlocks rfl (by congr 1; unfold dst; omega) dX5_apart_14
  · refine lv_iload_n hx hb dX5_apart_5 rfl (lv_at hl 1 rfl) ?_
    refine lv_iload_n hx hb dX5_apart_6 rfl (lv_at hl 0 rfl) ?_
    refine n_isub (a := b) (b := a) hx hb (by omega) dX5_apart_7 ?_
    refine lv_goto (tgt := 14) hx hb dX5_apart_8 (by decide) ?_
    exact zretI hx hb hr hlocks rfl (by congr 1; unfold dst; omega) dX5_apart_14

set_option maxHeartbeats 4000000 in
set_option maxRecDepth 100000 in
theorem c_X5_offOf (l : Launch) (g : Gx) (y : Nat) (ya : Nat) (yb : Nat) (yc : Nat) (yd : Nat) (ye : Nat) (yf : Nat) (yg : Nat) (yh : Nat) (yi : Nat) (yj : Nat) (yk : Nat) (yl : Nat) (ft : Nat) (tr : Int32) (lane : Nat → Nat) (ml : Nat → Nat) (cel : Nat → Nat → Int32) (np : Nat) (sl : Nat) (kd : Nat → Nat) (hg : Nat → Nat) (ps : Nat) (rs : Int32) (rn : Nat) (rk : Nat → Int32) (rh : Nat → Int32) (lg : Int32) (fk : Int32) (gt : Int32) (tkn : Nat → Int32) (nr : Nat) (ru : Nat → Nat) (rl : Nat → Nat) (rm : Nat → Nat) (rd : Nat → Nat) (u : Nat) (q : Nat) (m : Nat) (hnp : np ≤ 6) (hkd : ∀ j, kd j ≤ 2) (hhg : ∀ j, hg j ≤ 9) (hu : u < np) (hq : q < np) (hm : m ≤ 9) : Met l yX5_offOf wsX5_offOf ({ frames := 1, cells := 0, slots := 0, locals := 25 } : Room) (PcR g [.ref y, .int (nI u), .int (nI q), .int (nI m)] (wM g y ya yb yc yd ye yf yg yh yi yj yk yl ft tr lane ml cel np sl kd hg ps rs rn rk rh lg fk gt tkn nr ru rl rm rd)) (vp_Si (fun r => r = nI (ap kd hg u q m))) 0 0 (fun _ => False) := by
  refine zenterR (cc := cX5_offOf) (maxL := 6) (ret := (some .int)) (by decide) rfl (Nat.le_of_ble_eq_true rfl) ?_
  intro P E s mt below meth cd ls hx hb hml hown hts hr hlocks hP hK hl
  have hl : lv_has ls 6 [(0, .ref y), (1, .int (nI u)), (2, .int (nI q)), (3, .int (nI m))] := hl
  have S0 : CallFix P mt cd cX5_offOf 6 s [.ref y, .int (nI u), .int (nI q), .int (nI m)].toArray wsX5_offOf RX5 := ⟨hx, hb, hml, hown, hts⟩
  refine lv_iconst (v := (nI 0)) hx hb dX5_offOf_0 (by decide) ?_
  refine lv_istore (lv' := [(4, .int (nI 0)), (0, .ref y), (1, .int (nI u)), (2, .int (nI q)), (3, .int (nI m))]) hx hb dX5_offOf_1 hl (by decide) rfl (fun ls hl => ?_)
  refine lv_iconst (v := (nI 0)) hx hb dX5_offOf_3 (by decide) ?_
  refine lv_istore (lv' := [(5, .int (nI 0)), (4, .int (nI 0)), (0, .ref y), (1, .int (nI u)), (2, .int (nI q)), (3, .int (nI m))]) hx hb dX5_offOf_4 hl (by decide) rfl (fun ls hl => ?_)
  have lp6 : ∀ (nn : Nat) (i : Nat) (ls : Array Slot), (3 - i) < nn → (i ≤ 3) → lv_has ls 6 [(0, .ref y), (1, .int (nI u)), (2, .int (nI q)), (3, .int (nI m)), (4, .int (nI (sumk (apk kd hg u q m) i))), (5, .int (nI i))] → W P l E ({ frames := 1, cells := 0, slots := 0, locals := 25 } : Room) s mt [.ref y, .int (nI u), .int (nI q), .int (nI m)].toArray below meth cd s.heap [] 0 0 (MQ below (vp_Si (fun r => r = nI (ap kd hg u q m))) [.ref y, .int (nI u), .int (nI q), .int (nI m)].toArray s 0 0 (fun _ => False)) (F0 mt 6 ls []) := by
    intro nn
    induction nn with
    | zero => intro i ls hmu; exact absurd hmu (Nat.not_lt_zero _)
    | succ nn ih6 =>
      intro i ls hmu hi hl
      refine lv_iload hx hb dX5_offOf_6 (lv_at hl 5 rfl) ?_
      refine lv_iconst (v := (nI 3)) hx hb dX5_offOf_8 (by decide) ?_
      refine n_icmp_ge (a := i) (b := 3) (tgt := 45) hx hb (by omega) (by omega) dX5_offOf_9 (by decide) (fun c9 => ?_) (fun c9 => ?_)
      · obtain rfl : 3 = i := by omega
        refine lv_iload hx hb dX5_offOf_45 (lv_at hl 4 rfl) ?_
        exact zretI hx hb hr hlocks rfl rfl dX5_offOf_47
      · refine lv_iload hx hb dX5_offOf_12 (lv_at hl 4 rfl) ?_
        refine lv_aload_n hx hb dX5_offOf_14 rfl (lv_at hl 0 rfl) ?_
        refine va_get (D := g.1) (ci := 5) (v := .ref ye) (C := RX5) (T := TX5) (N := 23) hx hb hts (fun _ h => (List.mem_cons_of_mem _ (List.mem_append_right _ h))) hown hK.1 hP 0 rfl rfl 8 (by decide) (hts _ (List.mem_of_getElem? (i := 1) rfl)) (fun _ h9 => h9) rfl dX5_offOf_15 ?_
        refine lv_iconst (v := (nI 3)) hx hb dX5_offOf_18 (by decide) ?_
        refine lv_iload_n hx hb dX5_offOf_19 rfl (lv_at hl 1 rfl) ?_
        refine n_imul (a := 3) (b := u) hx hb dX5_offOf_20 ?_
        refine lv_iload hx hb dX5_offOf_21 (lv_at hl 5 rfl) ?_
        refine n_iadd (a := (3 * u)) (b := i) hx hb dX5_offOf_23 ?_
        refine n_iald (i := ((3 * u) + i)) (v := (nI (hg ((3 * u) + i)))) hx hb hK.1 hP 5 0 rfl rfl (by omega) (by decide) rfl dX5_offOf_24 ?_
        have f1 := hhg ((3 * u) + i)
        refine lv_aload_n hx hb dX5_offOf_25 rfl (lv_at hl 0 rfl) ?_
        refine lv_iload_n hx hb dX5_offOf_26 rfl (lv_at hl 2 rfl) ?_
        refine lv_iload hx hb dX5_offOf_27 (lv_at hl 5 rfl) ?_
        refine lv_iload_n hx hb dX5_offOf_29 rfl (lv_at hl 3 rfl) ?_
        have hPc : PP g (wM g y ya yb yc yd ye yf yg yh yi yj yk yl ft tr lane ml cel np sl kd hg ps rs rn rk rh lg fk gt tkn nr ru rl rm rd) _ := hP
        refine zcallR (va_runV (As := [.int (nI q), .int (nI i), .int (nI m)]) (rest := [.int (nI (hg ((3 * u) + i))), .int (nI (sumk (apk kd hg u q m) i))]) (b := y) S0 (c_X5_lower l g y ya yb yc yd ye yf yg yh yi yj yk yl ft tr lane ml cel np sl kd hg ps rs rn rk rh lg fk gt tkn nr ru rl rm rd q i m hnp hkd hhg hq (by omega) (by omega)) (cwV 3 hts gX5_offOf_X5_lower rfl rfl rfl (by decide +kernel) ⟨by decide, by decide⟩) (zpreV hK hPc (va_recv hK.1 hPc (ci := 5) (q0 := 0) rfl rfl)) rfl rfl hl.1 rfl (lv_room (Nat.le_of_ble_eq_true rfl)) dX5_offOf_30 ⟨by decide, by decide⟩) (fun r30 h30 => ?_)
        subst h30
        have f2 := lo_le kd hhg q i m
        refine zcallR (va_runS (As := [.int (nI (hg ((3 * u) + i))), .int (nI (lo kd hg q i m))]) (rest := [.int (nI (sumk (apk kd hg u q m) i))]) S0 (c_X5_apart l g (hg ((3 * u) + i)) (lo kd hg q i m) (by omega) (by omega)) (va_cwS 2 hts gX5_offOf_X5_apart rfl rfl rfl (by decide +kernel) ⟨by decide, by decide⟩) (zpreS hK (P_nil _)) rfl rfl hl.1 rfl (lv_room (Nat.le_of_ble_eq_true rfl)) dX5_offOf_33 ⟨by decide, by decide⟩) (fun r33 h33 => ?_)
        subst h33
        refine ztopI (nI (apk kd hg u q m i)) (rfl) ?_
        refine n_iadd (a := (sumk (apk kd hg u q m) i)) (b := (apk kd hg u q m i)) hx hb dX5_offOf_36 ?_
        refine lv_istore (lv' := [(4, .int (nI ((sumk (apk kd hg u q m) i) + (apk kd hg u q m i)))), (0, .ref y), (1, .int (nI u)), (2, .int (nI q)), (3, .int (nI m)), (5, .int (nI i))]) hx hb dX5_offOf_37 hl (by decide) rfl (fun ls hl => ?_)
        refine n_iinc (a := i) (d := 1) (lv' := [(5, .int (nI (i + 1))), (4, .int (nI ((sumk (apk kd hg u q m) i) + (apk kd hg u q m i)))), (0, .ref y), (1, .int (nI u)), (2, .int (nI q)), (3, .int (nI m))]) hx hb dX5_offOf_39 hl (k := 5) rfl (by decide) (by decide) rfl (fun ls hl => ?_)
        refine lv_goto (tgt := 6) hx hb dX5_offOf_42 (by decide) ?_
        exact ih6 (i + 1)  ls (by omega) (by omega) (lv_sub hl [2, 3, 4, 5, 1, 0] rfl)
  exact lp6 (3 - 0 + 1) 0  ls (Nat.lt_succ_self _) (by omega) (lv_sub hl [2, 3, 4, 5, 1, 0] rfl)

set_option maxHeartbeats 4000000 in
set_option maxRecDepth 100000 in
theorem c_X5_isFit (l : Launch) (g : Gx) (y : Nat) (ya : Nat) (yb : Nat) (yc : Nat) (yd : Nat) (ye : Nat) (yf : Nat) (yg : Nat) (yh : Nat) (yi : Nat) (yj : Nat) (yk : Nat) (yl : Nat) (ft : Nat) (tr : Int32) (lane : Nat → Nat) (ml : Nat → Nat) (cel : Nat → Nat → Int32) (np : Nat) (sl : Nat) (kd : Nat → Nat) (hg : Nat → Nat) (ps : Nat) (rs : Int32) (rn : Nat) (rk : Nat → Int32) (rh : Nat → Int32) (lg : Int32) (fk : Int32) (gt : Int32) (tkn : Nat → Int32) (nr : Nat) (ru : Nat → Nat) (rl : Nat → Nat) (rm : Nat → Nat) (rd : Nat → Nat) (u : Nat) (q : Nat) (m : Nat) (hnp : np ≤ 6) (hsl : sl ≤ 9) (hkd : ∀ j, kd j ≤ 2) (hhg : ∀ j, hg j ≤ 9) (hu : u < np) (hq : q < np) (hm : m ≤ 9) : Met l yX5_isFit wsX5_isFit ({ frames := 2, cells := 0, slots := 0, locals := 50 } : Room) (PcR g [.ref y, .int (nI u), .int (nI q), .int (nI m)] (wM g y ya yb yc yd ye yf yg yh yi yj yk yl ft tr lane ml cel np sl kd hg ps rs rn rk rh lg fk gt tkn nr ru rl rm rd)) (vp_Si (fun r => r = nI (fitb sl kd hg u q m))) 0 0 (fun _ => False) := by
  refine zenterR (cc := cX5_isFit) (maxL := 4) (ret := (some .boolean)) (by decide) rfl (Nat.le_of_ble_eq_true rfl) ?_
  intro P E s mt below meth cd ls hx hb hml hown hts hr hlocks hP hK hl
  have hl : lv_has ls 4 [(0, .ref y), (1, .int (nI u)), (2, .int (nI q)), (3, .int (nI m))] := hl
  have S0 : CallFix P mt cd cX5_isFit 4 s [.ref y, .int (nI u), .int (nI q), .int (nI m)].toArray wsX5_isFit RX5 := ⟨hx, hb, hml, hown, hts⟩
  refine lv_aload_n hx hb dX5_isFit_0 rfl (lv_at hl 0 rfl) ?_
  refine lv_iload_n hx hb dX5_isFit_1 rfl (lv_at hl 1 rfl) ?_
  refine lv_iload_n hx hb dX5_isFit_2 rfl (lv_at hl 2 rfl) ?_
  refine lv_iload_n hx hb dX5_isFit_3 rfl (lv_at hl 3 rfl) ?_
  have hPc : PP g (wM g y ya yb yc yd ye yf yg yh yi yj yk yl ft tr lane ml cel np sl kd hg ps rs rn rk rh lg fk gt tkn nr ru rl rm rd) _ := hP
  refine zcallR (va_runV (As := [.int (nI u), .int (nI q), .int (nI m)]) (rest := []) (b := y) S0 (c_X5_offOf l g y ya yb yc yd ye yf yg yh yi yj yk yl ft tr lane ml cel np sl kd hg ps rs rn rk rh lg fk gt tkn nr ru rl rm rd u q m hnp hkd hhg (by omega) (by omega) (by omega)) (cwV 3 hts gX5_isFit_X5_offOf rfl rfl rfl (by decide +kernel) ⟨by decide, by decide⟩) (zpreV hK hPc (va_recv hK.1 hPc (ci := 5) (q0 := 0) rfl rfl)) rfl rfl hl.1 rfl (lv_room (Nat.le_of_ble_eq_true rfl)) dX5_isFit_4 ⟨by decide, by decide⟩) (fun r4 h4 => ?_)
  subst h4
  have f1 := ap_le kd hhg u q m
  refine lv_aload_n hx hb dX5_isFit_7 rfl (lv_at hl 0 rfl) ?_
  refine va_get (D := g.1) (ci := 5) (v := .int (nI sl)) (C := RX5) (T := TX5) (N := 23) hx hb hts (fun _ h => (List.mem_cons_of_mem _ (List.mem_append_right _ h))) hown hK.1 hP 0 rfl rfl 6 (by decide) (hts _ (List.mem_of_getElem? (i := 1) rfl)) (fun _ h9 => h9) rfl dX5_isFit_8 ?_
  refine n_icmp_gt (a := (ap kd hg u q m)) (b := sl) (tgt := 18) hx hb (by omega) (by omega) dX5_isFit_11 (by decide) (fun c11 => ?_) (fun c11 => ?_)
  · refine lv_iconst (v := (nI 0)) hx hb dX5_isFit_18 (by decide) ?_
    refine ztopI (nI (fitb sl kd hg u q m)) (by rw [fitb, b01_f (by omega)]) ?_
    exact zretI hx hb hr hlocks (nar_b (b01_le _)) (by rfl) dX5_isFit_19
  · refine lv_iconst (v := (nI 1)) hx hb dX5_isFit_14 (by decide) ?_
    refine ztopI (nI (fitb sl kd hg u q m)) (by rw [fitb, b01_t c11]) ?_
    refine lv_goto (tgt := 19) hx hb dX5_isFit_15 (by decide) ?_
    exact zretI hx hb hr hlocks (nar_b (b01_le _)) (by rfl) dX5_isFit_19

set_option maxHeartbeats 4000000 in
set_option maxRecDepth 100000 in
theorem c_X5_fitsOf (l : Launch) (g : Gx) (y : Nat) (ya : Nat) (yb : Nat) (yc : Nat) (yd : Nat) (ye : Nat) (yf : Nat) (yg : Nat) (yh : Nat) (yi : Nat) (yj : Nat) (yk : Nat) (yl : Nat) (ft : Nat) (tr : Int32) (lane : Nat → Nat) (ml : Nat → Nat) (cel : Nat → Nat → Int32) (np : Nat) (sl : Nat) (kd : Nat → Nat) (hg : Nat → Nat) (ps : Nat) (rs : Int32) (rn : Nat) (rk : Nat → Int32) (rh : Nat → Int32) (lg : Int32) (fk : Int32) (gt : Int32) (tkn : Nat → Int32) (nr : Nat) (ru : Nat → Nat) (rl : Nat → Nat) (rm : Nat → Nat) (rd : Nat → Nat) (q : Nat) (m : Nat) (hnp : np ≤ 6) (hsl : sl ≤ 9) (hkd : ∀ j, kd j ≤ 2) (hhg : ∀ j, hg j ≤ 9) (hq : q < np) (hm : m ≤ 9) : Met l yX5_fitsOf wsX5_fitsOf ({ frames := 3, cells := 0, slots := 0, locals := 73 } : Room) (PcR g [.ref y, .int (nI q), .int (nI m)] (wM g y ya yb yc yd ye yf yg yh yi yj yk yl ft tr lane ml cel np sl kd hg ps rs rn rk rh lg fk gt tkn nr ru rl rm rd)) (vp_Si (fun r => r = nI (fset np sl kd hg q m))) 0 0 (fun _ => False) := by
  refine zenterR (cc := cX5_fitsOf) (maxL := 5) (ret := (some .int)) (by decide) rfl (Nat.le_of_ble_eq_true rfl) ?_
  intro P E s mt below meth cd ls hx hb hml hown hts hr hlocks hP hK hl
  have hl : lv_has ls 5 [(0, .ref y), (1, .int (nI q)), (2, .int (nI m))] := hl
  have S0 : CallFix P mt cd cX5_fitsOf 5 s [.ref y, .int (nI q), .int (nI m)].toArray wsX5_fitsOf RX5 := ⟨hx, hb, hml, hown, hts⟩
  refine lv_iconst (v := (nI 0)) hx hb dX5_fitsOf_0 (by decide) ?_
  refine lv_istore_n (lv' := [(3, .int (nI 0)), (0, .ref y), (1, .int (nI q)), (2, .int (nI m))]) hx hb dX5_fitsOf_1 rfl hl (by decide) rfl (fun ls hl => ?_)
  refine lv_iconst (v := (nI 0)) hx hb dX5_fitsOf_2 (by decide) ?_
  refine lv_istore (lv' := [(4, .int (nI 0)), (3, .int (nI 0)), (0, .ref y), (1, .int (nI q)), (2, .int (nI m))]) hx hb dX5_fitsOf_3 hl (by decide) rfl (fun ls hl => ?_)
  have lp5 : ∀ (nn : Nat) (i : Nat) (ls : Array Slot), (np - i) < nn → (i ≤ np) → lv_has ls 5 [(0, .ref y), (1, .int (nI q)), (2, .int (nI m)), (3, .int (nI (bset (fun p => fitb sl kd hg p q m) i))), (4, .int (nI i))] → W P l E ({ frames := 3, cells := 0, slots := 0, locals := 73 } : Room) s mt [.ref y, .int (nI q), .int (nI m)].toArray below meth cd s.heap [] 0 0 (MQ below (vp_Si (fun r => r = nI (fset np sl kd hg q m))) [.ref y, .int (nI q), .int (nI m)].toArray s 0 0 (fun _ => False)) (F0 mt 5 ls []) := by
    intro nn
    induction nn with
    | zero => intro i ls hmu; exact absurd hmu (Nat.not_lt_zero _)
    | succ nn ih5 =>
      intro i ls hmu hi hl
      refine lv_iload hx hb dX5_fitsOf_5 (lv_at hl 4 rfl) ?_
      refine lv_aload_n hx hb dX5_fitsOf_7 rfl (lv_at hl 0 rfl) ?_
      refine va_get (D := g.1) (ci := 5) (v := .int (nI np)) (C := RX5) (T := TX5) (N := 23) hx hb hts (fun _ h => (List.mem_cons_of_mem _ (List.mem_append_right _ h))) hown hK.1 hP 0 rfl rfl 5 (by decide) (hts _ (List.mem_of_getElem? (i := 1) rfl)) (fun _ h9 => h9) rfl dX5_fitsOf_8 ?_
      refine n_icmp_ge (a := i) (b := np) (tgt := 42) hx hb (by omega) (by omega) dX5_fitsOf_11 (by decide) (fun c11 => ?_) (fun c11 => ?_)
      · obtain rfl : np = i := by omega
        refine lv_iload_n hx hb dX5_fitsOf_42 rfl (lv_at hl 3 rfl) ?_
        exact zretI hx hb hr hlocks rfl rfl dX5_fitsOf_43
      · refine lv_iload_n hx hb dX5_fitsOf_14 rfl (lv_at hl 3 rfl) ?_
        refine lv_aload_n hx hb dX5_fitsOf_15 rfl (lv_at hl 0 rfl) ?_
        refine lv_iload hx hb dX5_fitsOf_16 (lv_at hl 4 rfl) ?_
        refine lv_iload_n hx hb dX5_fitsOf_18 rfl (lv_at hl 1 rfl) ?_
        refine lv_iload_n hx hb dX5_fitsOf_19 rfl (lv_at hl 2 rfl) ?_
        have hPc : PP g (wM g y ya yb yc yd ye yf yg yh yi yj yk yl ft tr lane ml cel np sl kd hg ps rs rn rk rh lg fk gt tkn nr ru rl rm rd) _ := hP
        refine zcallR (va_runV (As := [.int (nI i), .int (nI q), .int (nI m)]) (rest := [.int (nI (bset (fun p => fitb sl kd hg p q m) i))]) (b := y) S0 (c_X5_isFit l g y ya yb yc yd ye yf yg yh yi yj yk yl ft tr lane ml cel np sl kd hg ps rs rn rk rh lg fk gt tkn nr ru rl rm rd i q m hnp hsl hkd hhg (by omega) (by omega) (by omega)) (cwV 3 hts gX5_fitsOf_X5_isFit rfl rfl rfl (by decide +kernel) ⟨by decide, by decide⟩) (zpreV hK hPc (va_recv hK.1 hPc (ci := 5) (q0 := 0) rfl rfl)) rfl rfl hl.1 rfl (lv_room (Nat.le_of_ble_eq_true rfl)) dX5_fitsOf_20 ⟨by decide, by decide⟩) (fun r20 h20 => ?_)
        subst h20
        have f1 := fitb_le sl kd hg i q m
        refine n_if_eq (a := (fitb sl kd hg i q m)) (tgt := 33) hx hb (by omega) dX5_fitsOf_23 (by decide) (fun c23 => ?_) (fun c23 => ?_)
        · refine lv_iconst (v := (nI 0)) hx hb dX5_fitsOf_33 (by decide) ?_
          refine ztopI (nI (bt (fitb sl kd hg i q m) i)) (by rw [bt, if_pos c23]) ?_
          refine n_ior (a := (bset (fun p => fitb sl kd hg p q m) i)) (b := (bt (fitb sl kd hg i q m) i)) hx hb dX5_fitsOf_34 ?_
          refine lv_istore_n (lv' := [(3, .int (nI ((bset (fun p => fitb sl kd hg p q m) i) ||| (bt (fitb sl kd hg i q m) i)))), (0, .ref y), (1, .int (nI q)), (2, .int (nI m)), (4, .int (nI i))]) hx hb dX5_fitsOf_35 rfl hl (by decide) rfl (fun ls hl => ?_)
          refine n_iinc (a := i) (d := 1) (lv' := [(4, .int (nI (i + 1))), (3, .int (nI ((bset (fun p => fitb sl kd hg p q m) i) ||| (bt (fitb sl kd hg i q m) i)))), (0, .ref y), (1, .int (nI q)), (2, .int (nI m))]) hx hb dX5_fitsOf_36 hl (k := 4) rfl (by decide) (by decide) rfl (fun ls hl => ?_)
          refine lv_goto (tgt := 5) hx hb dX5_fitsOf_39 (by decide) ?_
          exact ih5 (i + 1)  ls (by omega) (by omega) (lv_sub hl [2, 3, 4, 1, 0] rfl)
        · refine lv_iconst (v := (nI 1)) hx hb dX5_fitsOf_26 (by decide) ?_
          refine lv_iload hx hb dX5_fitsOf_27 (lv_at hl 4 rfl) ?_
          refine n_ishl1 (n := i) hx hb (by omega) dX5_fitsOf_29 ?_
          refine ztopI (nI (bt (fitb sl kd hg i q m) i)) (by rw [bt, if_neg c23]) ?_
          refine lv_goto (tgt := 34) hx hb dX5_fitsOf_30 (by decide) ?_
          refine n_ior (a := (bset (fun p => fitb sl kd hg p q m) i)) (b := (bt (fitb sl kd hg i q m) i)) hx hb dX5_fitsOf_34 ?_
          refine lv_istore_n (lv' := [(3, .int (nI ((bset (fun p => fitb sl kd hg p q m) i) ||| (bt (fitb sl kd hg i q m) i)))), (0, .ref y), (1, .int (nI q)), (2, .int (nI m)), (4, .int (nI i))]) hx hb dX5_fitsOf_35 rfl hl (by decide) rfl (fun ls hl => ?_)
          refine n_iinc (a := i) (d := 1) (lv' := [(4, .int (nI (i + 1))), (3, .int (nI ((bset (fun p => fitb sl kd hg p q m) i) ||| (bt (fitb sl kd hg i q m) i)))), (0, .ref y), (1, .int (nI q)), (2, .int (nI m))]) hx hb dX5_fitsOf_36 hl (k := 4) rfl (by decide) (by decide) rfl (fun ls hl => ?_)
          refine lv_goto (tgt := 5) hx hb dX5_fitsOf_39 (by decide) ?_
          exact ih5 (i + 1)  ls (by omega) (by omega) (lv_sub hl [2, 3, 4, 1, 0] rfl)
  exact lp5 (np - 0 + 1) 0  ls (Nat.lt_succ_self _) (by omega) (lv_sub hl [2, 3, 4, 1, 0] rfl)

set_option maxHeartbeats 4000000 in
set_option maxRecDepth 100000 in
theorem c_X5_ofPass (l : Launch) (g : Gx) (y : Nat) (ya : Nat) (yb : Nat) (yc : Nat) (yd : Nat) (ye : Nat) (yf : Nat) (yg : Nat) (yh : Nat) (yi : Nat) (yj : Nat) (yk : Nat) (yl : Nat) (ft : Nat) (tr : Int32) (lane : Nat → Nat) (ml : Nat → Nat) (cel : Nat → Nat → Int32) (np : Nat) (sl : Nat) (kd : Nat → Nat) (hg : Nat → Nat) (ps : Nat) (rs : Int32) (rn : Nat) (rk : Nat → Int32) (rh : Nat → Int32) (lg : Int32) (fk : Int32) (gt : Int32) (tkn : Nat → Int32) (nr : Nat) (ru : Nat → Nat) (rl : Nat → Nat) (rm : Nat → Nat) (rd : Nat → Nat) (p : Int32) (w : Int32) (hG : Gd np sl kd hg nr ru rl rm rd lane ml) : Met l yX5_ofPass wsX5_ofPass ({ frames := 1, cells := 0, slots := 0, locals := 22 } : Room) (PcR g [.ref y, .int p, .int w] (wM g y ya yb yc yd ye yf yg yh yi yj yk yl ft tr lane ml cel np sl kd hg ps rs rn rk rh lg fk gt tkn nr ru rl rm rd)) (vp_Si (fun r => r = sp_ofPass np kd hg p w)) 0 0 (fun _ => False) := by
  refine zenterR (cc := cX5_ofPass) (maxL := 3) (ret := (some .int)) (by decide) rfl (Nat.le_of_ble_eq_true rfl) ?_
  intro P E s mt below meth cd ls hx hb hml hown hts hr hlocks hP hK hl
  have hl : lv_has ls 3 [(0, .ref y), (1, .int p), (2, .int w)] := hl
  have S0 : CallFix P mt cd cX5_ofPass 3 s [.ref y, .int p, .int w].toArray wsX5_ofPass RX5 := ⟨hx, hb, hml, hown, hts⟩
  obtain ⟨hnp, hsl, hkd, hhg, hnr, hru, hrl, hrm, hrd, hla, hmz⟩ := hG
  refine lv_aload_n hx hb dX5_ofPass_0 rfl (lv_at hl 0 rfl) ?_
  refine lv_iload_n hx hb dX5_ofPass_1 rfl (lv_at hl 1 rfl) ?_
  have hPc : PP g (wM g y ya yb yc yd ye yf yg yh yi yj yk yl ft tr lane ml cel np sl kd hg ps rs rn rk rh lg fk gt tkn nr ru rl rm rd) _ := hP
  refine zcallR (va_runV (As := [.int p]) (rest := []) (b := y) S0 (c_X5_isPass l g y ya yb yc yd ye yf yg yh yi yj yk yl ft tr lane ml cel np sl kd hg ps rs rn rk rh lg fk gt tkn nr ru rl rm rd p hnp) (cwV 1 hts gX5_ofPass_X5_isPass rfl rfl rfl (by decide +kernel) ⟨by decide, by decide⟩) (zpreV hK hPc (va_recv hK.1 hPc (ci := 5) (q0 := 0) rfl rfl)) rfl rfl hl.1 rfl (lv_room (Nat.le_of_ble_eq_true rfl)) dX5_ofPass_2 ⟨by decide, by decide⟩) (fun r2 h2 => ?_)
  rcases h2 with ⟨w_2, hw_2, hv_2, rfl⟩ | ⟨hn_2, rfl⟩
  · subst hv_2
    refine lv_if_ne (tgt := 10) hx hb dX5_ofPass_5 (by decide) (fun c5 => ?_) (fun c5 => ?_)
    rotate_left
    · exact absurd c5 (by decide)
    refine lv_iload_n hx hb dX5_ofPass_10 rfl (lv_at hl 2 rfl) ?_
    refine lv_if_ne (tgt := 23) hx hb dX5_ofPass_11 (by decide) (fun c11 => ?_) (fun c11 => ?_)
    · refine lv_iload_n hx hb dX5_ofPass_23 rfl (lv_at hl 2 rfl) ?_
      refine lv_iconst (v := (nI 1)) hx hb dX5_ofPass_24 (by decide) ?_
      refine lv_iconst (v := (nI 3)) hx hb dX5_ofPass_25 (by decide) ?_
      refine zcallR (va_runS (As := [.int w, .int (nI 1), .int (nI 3)]) (rest := []) S0 (c_X5_within l g w (nI 1) (nI 3)) (va_cwS 3 hts gX5_ofPass_X5_within rfl rfl rfl (by decide +kernel) ⟨by decide, by decide⟩) (zpreS hK (P_nil _)) rfl rfl hl.1 rfl (lv_room (Nat.le_of_ble_eq_true rfl)) dX5_ofPass_26 ⟨by decide, by decide⟩) (fun r26 h26 => ?_)
      subst h26
      have hbl := b01_le (nI 1 ≤ w ∧ w ≤ nI 3)
      refine n_if_eq (a := (b01 ((nI 1) ≤ w ∧ w ≤ (nI 3)))) (tgt := 47) hx hb (by omega) dX5_ofPass_29 (by decide) (fun c29 => ?_) (fun c29 => ?_)
      · refine lv_bipush (v := (-2)) hx hb dX5_ofPass_47 (by decide) ?_
        exact zretI hx hb hr hlocks rfl (by rw [sp_ofPass, if_pos (isP_of (by omega) hw_2), if_neg (c := isP 4 w) (not13 c11 (b01_0.mp c29))]) dX5_ofPass_49
      · obtain ⟨ww, hj_ww, e_ww⟩ := in13 (b01_n0.mp c29)
        subst e_ww
        refine lv_aload_n hx hb dX5_ofPass_32 rfl (lv_at hl 0 rfl) ?_
        refine va_get (D := g.1) (ci := 5) (v := .ref ye) (C := RX5) (T := TX5) (N := 23) hx hb hts (fun _ h => (List.mem_cons_of_mem _ (List.mem_append_right _ h))) hown hK.1 hP 0 rfl rfl 8 (by decide) (hts _ (List.mem_of_getElem? (i := 2) rfl)) (fun _ h9 => h9) rfl dX5_ofPass_33 ?_
        refine lv_iconst (v := (nI 3)) hx hb dX5_ofPass_36 (by decide) ?_
        refine lv_iload_n hx hb dX5_ofPass_37 rfl (lv_at hl 1 rfl) ?_
        refine n_imul (a := 3) (b := w_2) hx hb dX5_ofPass_38 ?_
        refine lv_iload_n hx hb dX5_ofPass_39 rfl (lv_at hl 2 rfl) ?_
        refine n_iadd (a := (3 * w_2)) (b := ww) hx hb dX5_ofPass_40 ?_
        refine lv_iconst (v := (nI 1)) hx hb dX5_ofPass_41 (by decide) ?_
        refine n_isub (a := ((3 * w_2) + ww)) (b := 1) hx hb (by omega) dX5_ofPass_42 ?_
        refine n_iald (i := (((3 * w_2) + ww) - 1)) (v := (nI (hg (((3 * w_2) + ww) - 1)))) hx hb hK.1 hP 5 0 rfl rfl (by omega) (by decide) rfl dX5_ofPass_43 ?_
        refine lv_goto (tgt := 49) hx hb dX5_ofPass_44 (by decide) ?_
        exact zretI hx hb hr hlocks rfl (by rw [sp_ofPass, if_pos (isP_of (by omega) hw_2), if_pos (c := isP 4 (nI ww)) (isP_of (by decide) (by omega)), if_neg (nI_neI (b := 0) (by omega) (by decide) (by omega)), tN_nI (u := w_2) (by omega), tN_nI (u := ww) (by omega)]; congr 2; omega) dX5_ofPass_49
    · have e11 : w = nI 0 := by rw [nI_0]; exact c11
      refine lv_aload_n hx hb dX5_ofPass_14 rfl (lv_at hl 0 rfl) ?_
      refine va_get (D := g.1) (ci := 5) (v := .ref yd) (C := RX5) (T := TX5) (N := 23) hx hb hts (fun _ h => (List.mem_cons_of_mem _ (List.mem_append_right _ h))) hown hK.1 hP 0 rfl rfl 7 (by decide) (hts _ (List.mem_of_getElem? (i := 1) rfl)) (fun _ h9 => h9) rfl dX5_ofPass_15 ?_
      refine lv_iload_n hx hb dX5_ofPass_18 rfl (lv_at hl 1 rfl) ?_
      refine n_iald (i := w_2) (v := (nI (kd w_2))) hx hb hK.1 hP 4 0 rfl rfl (by omega) (by decide) rfl dX5_ofPass_19 ?_
      refine lv_goto (tgt := 49) hx hb dX5_ofPass_20 (by decide) ?_
      exact zretI hx hb hr hlocks rfl (by rw [sp_ofPass, if_pos (isP_of (by omega) hw_2), if_pos (c := isP 4 w) (by rw [e11]; exact isP_of (by decide) (by decide)), if_pos e11, tN_nI (u := w_2) (by omega)]) dX5_ofPass_49
  · refine lv_if_ne (tgt := 10) hx hb dX5_ofPass_5 (by decide) (fun c5 => ?_) (fun c5 => ?_)
    · exact absurd c5 (by decide)
    refine lv_iconst (v := (-1)) hx hb dX5_ofPass_8 (by decide) ?_
    exact zretI hx hb hr hlocks rfl (by rw [sp_ofPass, if_neg hn_2]) dX5_ofPass_9
