set_option maxHeartbeats 4000000 in
set_option maxRecDepth 100000 in
theorem c_X5_digit (l : Launch) (g : Gx) (y : Nat) (ya : Nat) (yb : Nat) (yc : Nat) (yd : Nat) (ye : Nat) (yf : Nat) (yg : Nat) (yh : Nat) (yi : Nat) (yj : Nat) (yk : Nat) (yl : Nat) (ft : Nat) (tr : Int32) (lane : Nat → Nat) (ml : Nat → Nat) (cel : Nat → Nat → Int32) (np : Nat) (sl : Nat) (kd : Nat → Nat) (hg : Nat → Nat) (ps : Nat) (rs : Int32) (rn : Nat) (rk : Nat → Int32) (rh : Nat → Int32) (lg : Int32) (fk : Int32) (gt : Int32) (tkn : Nat → Int32) (nr : Nat) (ru : Nat → Nat) (rl : Nat → Nat) (rm : Nat → Nat) (rd : Nat → Nat) (e : Nat) (he : e ≤ 240) (hpe : ps ≤ e) : Met l yX5_digit wsX5_digit ({ frames := 1, cells := 0, slots := 0, locals := 22 } : Room) (PcM g [.ref y, .int (nI e)] (wM g y ya yb yc yd ye yf yg yh yi yj yk yl ft tr lane ml cel np sl kd hg ps rs rn rk rh lg fk gt tkn nr ru rl rm rd)) (va_Qi (fun (r : Int32) (uu : Unit) => r = dgR cel ps e) (fun (uu : Unit) t => PP g (wM g y ya yb yc yd ye yf yg yh yi yj yk yl ft tr lane ml cel np sl kd hg (dgP cel ps e) rs rn rk rh lg fk gt tkn nr ru rl rm rd) t.heap) (inW (wM g y ya yb yc yd ye yf yg yh yi yj yk yl ft tr lane ml cel np sl kd hg ps rs rn rk rh lg fk gt tkn nr ru rl rm rd))) 0 0 (inW (wM g y ya yb yc yd ye yf yg yh yi yj yk yl ft tr lane ml cel np sl kd hg ps rs rn rk rh lg fk gt tkn nr ru rl rm rd)) := by
  refine zenterM (cc := cX5_digit) (maxL := 2) (ret := (some .int)) (by decide) rfl (Nat.le_of_ble_eq_true rfl) ?_
  intro P E s mt below meth cd ls hx hb hml hown hts hr hlocks hP hK hD hS hl
  skip
  have hl : lv_has ls 2 [(0, .ref y), (1, .int (nI e))] := hl
  have S0 : CallFix P mt cd cX5_digit 2 s [.ref y, .int (nI e)].toArray wsX5_digit RX5 := ⟨hx, hb, hml, hown, hts⟩
  refine lv_aload_n hx hb dX5_digit_0 rfl (lv_at hl 0 rfl) ?_
  refine va_get (D := g.1) (ci := 5) (v := .int (nI ps)) (C := RX5) (T := TX5) (N := 23) hx hb hts (fun _ h => (List.mem_cons_of_mem _ (List.mem_append_right _ h))) hown hK.1 hP 0 rfl rfl 9 (by decide) (hts _ (List.mem_of_getElem? (i := 1) rfl)) (fun _ h9 => h9) rfl dX5_digit_1 ?_
  refine lv_iload_n hx hb dX5_digit_4 rfl (lv_at hl 1 rfl) ?_
  refine n_icmp_ge (a := ps) (b := e) (tgt := 27) hx hb (by omega) (by omega) dX5_digit_5 (by decide) (fun c5 => ?_) (fun c5 => ?_)
  · refine lv_bipush (v := (-9)) hx hb dX5_digit_27 (by decide) ?_
    exact zretMI (w1 := fun (uu : Unit) => wM g y ya yb yc yd ye yf yg yh yi yj yk yl ft tr lane ml cel np sl kd hg (dgP cel ps e) rs rn rk rh lg fk gt tkn nr ru rl rm rd) () hx hb hr hlocks hS rfl (dgR_n (fun z => absurd z.1 (by omega))) (by rw [dgP_n (fun z => absurd z.1 (by omega))]; exact hP) dX5_digit_29
  · refine lv_aload_n hx hb dX5_digit_8 rfl (lv_at hl 0 rfl) ?_
    refine va_get (D := g.1) (ci := 5) (v := .ref yc) (C := RX5) (T := TX5) (N := 23) hx hb hts (fun _ h => (List.mem_cons_of_mem _ (List.mem_append_right _ h))) hown hK.1 hP 0 rfl rfl 4 (by decide) (hts _ (List.mem_of_getElem? (i := 2) rfl)) (fun _ h9 => h9) rfl dX5_digit_9 ?_
    refine lv_aload_n hx hb dX5_digit_12 rfl (lv_at hl 0 rfl) ?_
    refine va_get (D := g.1) (ci := 5) (v := .int (nI ps)) (C := RX5) (T := TX5) (N := 23) hx hb hts (fun _ h => (List.mem_cons_of_mem _ (List.mem_append_right _ h))) hown hK.1 hP 0 rfl rfl 9 (by decide) (hts _ (List.mem_of_getElem? (i := 1) rfl)) (fun _ h9 => h9) rfl dX5_digit_13 ?_
    refine n_iald (i := ps) (v := (cel (ps / 60) (ps % 60))) hx hb hK.1 hP 3 0 rfl rfl (by omega) (by decide) rfl dX5_digit_16 ?_
    refine lv_bipush (v := (nI 48)) hx hb dX5_digit_17 (by decide) ?_
    refine lv_bipush (v := (nI 57)) hx hb dX5_digit_19 (by decide) ?_
    refine zcallR (va_runS (As := [.int (cel (ps / 60) (ps % 60)), .int (nI 48), .int (nI 57)]) (rest := []) S0 (c_X5_within l g (cel (ps / 60) (ps % 60)) (nI 48) (nI 57)) (va_cwS 3 hts gX5_digit_X5_within rfl rfl rfl (by decide +kernel) ⟨by decide, by decide⟩) (zpreS hK (P_nil _)) rfl rfl hl.1 rfl (lv_room (Nat.le_of_ble_eq_true rfl)) dX5_digit_21 ⟨by decide, by decide⟩) (fun r21 h21 => ?_)
    subst h21
    have hbl := b01_le (nI 48 ≤ cel (ps / 60) (ps % 60) ∧ cel (ps / 60) (ps % 60) ≤ nI 57)
    refine n_if_ne (a := (b01 ((nI 48) ≤ (cel (ps / 60) (ps % 60)) ∧ (cel (ps / 60) (ps % 60)) ≤ (nI 57)))) (tgt := 30) hx hb (by omega) dX5_digit_24 (by decide) (fun c24 => ?_) (fun c24 => ?_)
    · have hd : dgC cel ps e := ⟨by omega, b01_n0.mp c24⟩
      refine lv_aload_n hx hb dX5_digit_30 rfl (lv_at hl 0 rfl) ?_
      refine lv_dup hx hb dX5_digit_31 rfl ?_
      refine va_get (D := g.1) (ci := 5) (v := .int (nI ps)) (C := RX5) (T := TX5) (N := 23) hx hb hts (fun _ h => (List.mem_cons_of_mem _ (List.mem_append_right _ h))) hown hK.1 hP 0 rfl rfl 9 (by decide) (hts _ (List.mem_of_getElem? (i := 1) rfl)) (fun _ h9 => h9) rfl dX5_digit_32 ?_
      refine lv_iconst (v := (nI 1)) hx hb dX5_digit_35 (by decide) ?_
      refine n_iadd (a := ps) (b := 1) hx hb dX5_digit_36 ?_
      refine n_put (D := g.1) (ci := 5) (v := .int (nI (ps + 1))) (ty := .int) (C := RX5) (T := TX5) (N := 23) (ws1 := wM g y ya yb yc yd ye yf yg yh yi yj yk yl ft tr lane ml cel np sl kd hg (ps + 1) rs rn rk rh lg fk gt tkn nr ru rl rm rd) hx hb hts (fun _ h => (List.mem_cons_of_mem _ (List.mem_append_right _ h))) tyX5 tyX5_ok nmX5 hown hK.1 hP hD hS 0 rfl rfl 9 (by decide) (hts _ (List.mem_of_getElem? (i := 1) rfl)) (fun _ h9 => h9) rfl (by decide +kernel) rfl rfl (Nat.le_of_ble_eq_true rfl) rfl dX5_digit_37 (fun H locs hP hD hS => ?_)
      refine lv_aload_n hx hb dX5_digit_40 rfl (lv_at hl 0 rfl) ?_
      refine va_get (D := g.1) (ci := 5) (v := .ref yc) (C := RX5) (T := TX5) (N := 23) hx hb hts (fun _ h => (List.mem_cons_of_mem _ (List.mem_append_right _ h))) hown hK.1 hP 0 rfl rfl 4 (by decide) (hts _ (List.mem_of_getElem? (i := 2) rfl)) (fun _ h9 => h9) rfl dX5_digit_41 ?_
      refine lv_aload_n hx hb dX5_digit_44 rfl (lv_at hl 0 rfl) ?_
      refine va_get (D := g.1) (ci := 5) (v := .int (nI (ps + 1))) (C := RX5) (T := TX5) (N := 23) hx hb hts (fun _ h => (List.mem_cons_of_mem _ (List.mem_append_right _ h))) hown hK.1 hP 0 rfl rfl 9 (by decide) (hts _ (List.mem_of_getElem? (i := 1) rfl)) (fun _ h9 => h9) rfl dX5_digit_45 ?_
      refine lv_iconst (v := (nI 1)) hx hb dX5_digit_48 (by decide) ?_
      refine n_isub (a := (ps + 1)) (b := 1) hx hb (by omega) dX5_digit_49 ?_
      refine n_iald (i := ((ps + 1) - 1)) (v := (cel (((ps + 1) - 1) / 60) (((ps + 1) - 1) % 60))) hx hb hK.1 hP 3 0 rfl rfl (by omega) (by decide) rfl dX5_digit_50 ?_
      refine ztopI (cf cel ps) (by rw [Nat.add_sub_cancel]) ?_
      refine lv_bipush (v := (nI 48)) hx hb dX5_digit_51 (by decide) ?_
      refine lv_isub hx hb dX5_digit_53 ?_
      refine ztopI (nI (dv (cf cel ps))) ((dg_dv hd.2).1) ?_
      exact zretMI (w1 := fun (uu : Unit) => wM g y ya yb yc yd ye yf yg yh yi yj yk yl ft tr lane ml cel np sl kd hg (dgP cel ps e) rs rn rk rh lg fk gt tkn nr ru rl rm rd) () hx hb hr hlocks hS rfl (dgR_y hd) (by rw [dgP_y hd]; exact hP) dX5_digit_54
    · refine lv_bipush (v := (-9)) hx hb dX5_digit_27 (by decide) ?_
      exact zretMI (w1 := fun (uu : Unit) => wM g y ya yb yc yd ye yf yg yh yi yj yk yl ft tr lane ml cel np sl kd hg (dgP cel ps e) rs rn rk rh lg fk gt tkn nr ru rl rm rd) () hx hb hr hlocks hS rfl (dgR_n (fun z => b01_0.mp c24 z.2)) (by rw [dgP_n (fun z => b01_0.mp c24 z.2)]; exact hP) dX5_digit_29

set_option maxHeartbeats 4000000 in
set_option maxRecDepth 100000 in
theorem c_X5_isSign (l : Launch) (g : Gx) (y : Nat) (ya : Nat) (yb : Nat) (yc : Nat) (yd : Nat) (ye : Nat) (yf : Nat) (yg : Nat) (yh : Nat) (yi : Nat) (yj : Nat) (yk : Nat) (yl : Nat) (ft : Nat) (tr : Int32) (lane : Nat → Nat) (ml : Nat → Nat) (cel : Nat → Nat → Int32) (np : Nat) (sl : Nat) (kd : Nat → Nat) (hg : Nat → Nat) (ps : Nat) (rs : Int32) (rn : Nat) (rk : Nat → Int32) (rh : Nat → Int32) (lg : Int32) (fk : Int32) (gt : Int32) (tkn : Nat → Int32) (nr : Nat) (ru : Nat → Nat) (rl : Nat → Nat) (rm : Nat → Nat) (rd : Nat → Nat) (e : Nat) (v : Int32) (he : e ≤ 240) (hpe : ps ≤ e) : Met l yX5_isSign wsX5_isSign ({ frames := 0, cells := 0, slots := 0, locals := 0 } : Room) (PcM g [.ref y, .int (nI e), .int v] (wM g y ya yb yc yd ye yf yg yh yi yj yk yl ft tr lane ml cel np sl kd hg ps rs rn rk rh lg fk gt tkn nr ru rl rm rd)) (va_Qi (fun (r : Int32) (uu : Unit) => r = nI (b01 (sgC cel ps e v))) (fun (uu : Unit) t => PP g (wM g y ya yb yc yd ye yf yg yh yi yj yk yl ft tr lane ml cel np sl kd hg (sgP cel ps e v) rs rn rk rh lg fk gt tkn nr ru rl rm rd) t.heap) (inW (wM g y ya yb yc yd ye yf yg yh yi yj yk yl ft tr lane ml cel np sl kd hg ps rs rn rk rh lg fk gt tkn nr ru rl rm rd))) 0 0 (inW (wM g y ya yb yc yd ye yf yg yh yi yj yk yl ft tr lane ml cel np sl kd hg ps rs rn rk rh lg fk gt tkn nr ru rl rm rd)) := by
  refine zenterM (cc := cX5_isSign) (maxL := 3) (ret := (some .boolean)) (by decide) rfl (Nat.le_of_ble_eq_true rfl) ?_
  intro P E s mt below meth cd ls hx hb hml hown hts hr hlocks hP hK hD hS hl
  skip
  have hl : lv_has ls 3 [(0, .ref y), (1, .int (nI e)), (2, .int v)] := hl
  have S0 : CallFix P mt cd cX5_isSign 3 s [.ref y, .int (nI e), .int v].toArray wsX5_isSign RX5 := ⟨hx, hb, hml, hown, hts⟩
  refine lv_aload_n hx hb dX5_isSign_0 rfl (lv_at hl 0 rfl) ?_
  refine va_get (D := g.1) (ci := 5) (v := .int (nI ps)) (C := RX5) (T := TX5) (N := 23) hx hb hts (fun _ h => (List.mem_cons_of_mem _ (List.mem_append_right _ h))) hown hK.1 hP 0 rfl rfl 9 (by decide) (hts _ (List.mem_of_getElem? (i := 1) rfl)) (fun _ h9 => h9) rfl dX5_isSign_1 ?_
  refine lv_iload_n hx hb dX5_isSign_4 rfl (lv_at hl 1 rfl) ?_
  refine n_icmp_ge (a := ps) (b := e) (tgt := 21) hx hb (by omega) (by omega) dX5_isSign_5 (by decide) (fun c5 => ?_) (fun c5 => ?_)
  · refine lv_iconst (v := (nI 0)) hx hb dX5_isSign_21 (by decide) ?_
    exact zretMI (w1 := fun (uu : Unit) => wM g y ya yb yc yd ye yf yg yh yi yj yk yl ft tr lane ml cel np sl kd hg (sgP cel ps e v) rs rn rk rh lg fk gt tkn nr ru rl rm rd) () hx hb hr hlocks hS rfl (by rw [b01_f (fun z => absurd z.1 (by omega))]) (by rw [sgP_n (fun z => absurd z.1 (by omega))]; exact hP) dX5_isSign_22
  · refine lv_aload_n hx hb dX5_isSign_8 rfl (lv_at hl 0 rfl) ?_
    refine va_get (D := g.1) (ci := 5) (v := .ref yc) (C := RX5) (T := TX5) (N := 23) hx hb hts (fun _ h => (List.mem_cons_of_mem _ (List.mem_append_right _ h))) hown hK.1 hP 0 rfl rfl 4 (by decide) (hts _ (List.mem_of_getElem? (i := 2) rfl)) (fun _ h9 => h9) rfl dX5_isSign_9 ?_
    refine lv_aload_n hx hb dX5_isSign_12 rfl (lv_at hl 0 rfl) ?_
    refine va_get (D := g.1) (ci := 5) (v := .int (nI ps)) (C := RX5) (T := TX5) (N := 23) hx hb hts (fun _ h => (List.mem_cons_of_mem _ (List.mem_append_right _ h))) hown hK.1 hP 0 rfl rfl 9 (by decide) (hts _ (List.mem_of_getElem? (i := 1) rfl)) (fun _ h9 => h9) rfl dX5_isSign_13 ?_
    refine n_iald (i := ps) (v := (cel (ps / 60) (ps % 60))) hx hb hK.1 hP 3 0 rfl rfl (by omega) (by decide) rfl dX5_isSign_16 ?_
    refine lv_iload_n hx hb dX5_isSign_17 rfl (lv_at hl 2 rfl) ?_
    refine lv_icmp_eq (tgt := 23) hx hb dX5_isSign_18 (by decide) (fun c18 => ?_) (fun c18 => ?_)
    · have hd : sgC cel ps e v := ⟨by omega, c18⟩
      refine lv_aload_n hx hb dX5_isSign_23 rfl (lv_at hl 0 rfl) ?_
      refine lv_dup hx hb dX5_isSign_24 rfl ?_
      refine va_get (D := g.1) (ci := 5) (v := .int (nI ps)) (C := RX5) (T := TX5) (N := 23) hx hb hts (fun _ h => (List.mem_cons_of_mem _ (List.mem_append_right _ h))) hown hK.1 hP 0 rfl rfl 9 (by decide) (hts _ (List.mem_of_getElem? (i := 1) rfl)) (fun _ h9 => h9) rfl dX5_isSign_25 ?_
      refine lv_iconst (v := (nI 1)) hx hb dX5_isSign_28 (by decide) ?_
      refine n_iadd (a := ps) (b := 1) hx hb dX5_isSign_29 ?_
      refine n_put (D := g.1) (ci := 5) (v := .int (nI (ps + 1))) (ty := .int) (C := RX5) (T := TX5) (N := 23) (ws1 := wM g y ya yb yc yd ye yf yg yh yi yj yk yl ft tr lane ml cel np sl kd hg (ps + 1) rs rn rk rh lg fk gt tkn nr ru rl rm rd) hx hb hts (fun _ h => (List.mem_cons_of_mem _ (List.mem_append_right _ h))) tyX5 tyX5_ok nmX5 hown hK.1 hP hD hS 0 rfl rfl 9 (by decide) (hts _ (List.mem_of_getElem? (i := 1) rfl)) (fun _ h9 => h9) rfl (by decide +kernel) rfl rfl (Nat.le_of_ble_eq_true rfl) rfl dX5_isSign_30 (fun H locs hP hD hS => ?_)
      refine lv_iconst (v := (nI 1)) hx hb dX5_isSign_33 (by decide) ?_
      exact zretMI (w1 := fun (uu : Unit) => wM g y ya yb yc yd ye yf yg yh yi yj yk yl ft tr lane ml cel np sl kd hg (sgP cel ps e v) rs rn rk rh lg fk gt tkn nr ru rl rm rd) () hx hb hr hlocks hS rfl (by rw [b01_t hd]) (by rw [sgP_y hd]; exact hP) dX5_isSign_34
    · refine lv_iconst (v := (nI 0)) hx hb dX5_isSign_21 (by decide) ?_
      exact zretMI (w1 := fun (uu : Unit) => wM g y ya yb yc yd ye yf yg yh yi yj yk yl ft tr lane ml cel np sl kd hg (sgP cel ps e v) rs rn rk rh lg fk gt tkn nr ru rl rm rd) () hx hb hr hlocks hS rfl (by rw [b01_f (fun z => c18 z.2)]) (by rw [sgP_n (fun z => c18 z.2)]; exact hP) dX5_isSign_22
