set_option maxHeartbeats 4000000 in
set_option maxRecDepth 100000 in
theorem c_X5_fails (l : Launch) (g : Gx) (y : Nat) (ya : Nat) (yb : Nat) (yc : Nat) (yd : Nat) (ye : Nat) (yf : Nat) (yg : Nat) (yh : Nat) (yi : Nat) (yj : Nat) (yk : Nat) (yl : Nat) (ft : Nat) (tr : Int32) (lane : Nat → Nat) (ml : Nat → Nat) (cel : Nat → Nat → Int32) (np : Nat) (sl : Nat) (kd : Nat → Nat) (hg : Nat → Nat) (ps : Nat) (rs : Int32) (rn : Nat) (rk : Nat → Int32) (rh : Nat → Int32) (lg : Int32) (fk : Int32) (gt : Int32) (tkn : Nat → Int32) (nr : Nat) (ru : Nat → Nat) (rl : Nat → Nat) (rm : Nat → Nat) (rd : Nat → Nat) (f : Nat) : Met l yX5_fails wsX5_fails ({ frames := 0, cells := 0, slots := 0, locals := 0 } : Room) (PcM g [.ref y, .int (nI f)] (wM g y ya yb yc yd ye yf yg yh yi yj yk yl ft tr lane ml cel np sl kd hg ps rs rn rk rh lg fk gt tkn nr ru rl rm rd)) (va_Qi (fun (r : Int32) (uu : Unit) => r = fA f) (fun (uu : Unit) t => PP g (wM g y ya yb yc yd ye yf yg yh yi yj yk yl f tr lane ml cel np sl kd hg ps rs rn rk rh lg fk gt tkn nr ru rl rm rd) t.heap) (inW (wM g y ya yb yc yd ye yf yg yh yi yj yk yl ft tr lane ml cel np sl kd hg ps rs rn rk rh lg fk gt tkn nr ru rl rm rd))) 0 0 (inW (wM g y ya yb yc yd ye yf yg yh yi yj yk yl ft tr lane ml cel np sl kd hg ps rs rn rk rh lg fk gt tkn nr ru rl rm rd)) := by
  refine zenterM (cc := cX5_fails) (maxL := 2) (ret := (some .int)) (by decide) rfl (Nat.le_of_ble_eq_true rfl) ?_
  intro P E s mt below meth cd ls hx hb hml hown hts hr hlocks hP hK hD hS hl
  skip
  have hl : lv_has ls 2 [(0, .ref y), (1, .int (nI f))] := hl
  have S0 : CallFix P mt cd cX5_fails 2 s [.ref y, .int (nI f)].toArray wsX5_fails RX5 := ⟨hx, hb, hml, hown, hts⟩
  refine lv_aload_n hx hb dX5_fails_0 rfl (lv_at hl 0 rfl) ?_
  refine lv_iload_n hx hb dX5_fails_1 rfl (lv_at hl 1 rfl) ?_
  refine n_put (D := g.1) (ci := 5) (v := .int (nI f)) (ty := .int) (C := RX5) (T := TX5) (N := 23) (ws1 := wM g y ya yb yc yd ye yf yg yh yi yj yk yl f tr lane ml cel np sl kd hg ps rs rn rk rh lg fk gt tkn nr ru rl rm rd) hx hb hts (fun _ h => (List.mem_cons_of_mem _ (List.mem_append_right _ h))) tyX5 tyX5_ok nmX5 hown hK.1 hP hD hS 0 rfl rfl 0 (by decide) (hts _ (List.mem_of_getElem? (i := 1) rfl)) (fun _ h9 => h9) rfl (by decide +kernel) rfl rfl (Nat.le_of_ble_eq_true rfl) rfl dX5_fails_2 (fun H locs hP hD hS => ?_)
  refine lv_bipush (v := (-10)) hx hb dX5_fails_5 (by decide) ?_
  refine lv_iload_n hx hb dX5_fails_7 rfl (lv_at hl 1 rfl) ?_
  refine lv_isub hx hb dX5_fails_8 ?_
  exact zretMI (w1 := fun (uu : Unit) => wM g y ya yb yc yd ye yf yg yh yi yj yk yl f tr lane ml cel np sl kd hg ps rs rn rk rh lg fk gt tkn nr ru rl rm rd) () hx hb hr hlocks hS rfl rfl hP dX5_fails_9

set_option maxHeartbeats 4000000 in
set_option maxRecDepth 100000 in
theorem c_X5_lost (l : Launch) (g : Gx) (y : Nat) (ya : Nat) (yb : Nat) (yc : Nat) (yd : Nat) (ye : Nat) (yf : Nat) (yg : Nat) (yh : Nat) (yi : Nat) (yj : Nat) (yk : Nat) (yl : Nat) (ft : Nat) (tr : Int32) (lane : Nat → Nat) (ml : Nat → Nat) (cel : Nat → Nat → Int32) (np : Nat) (sl : Nat) (kd : Nat → Nat) (hg : Nat → Nat) (ps : Nat) (rs : Int32) (rn : Nat) (rk : Nat → Int32) (rh : Nat → Int32) (lg : Int32) (fk : Int32) (gt : Int32) (tkn : Nat → Int32) (nr : Nat) (ru : Nat → Nat) (rl : Nat → Nat) (rm : Nat → Nat) (rd : Nat → Nat) (f : Nat) : Met l yX5_lost wsX5_lost ({ frames := 0, cells := 0, slots := 0, locals := 0 } : Room) (PcM g [.ref y, .int (nI f)] (wM g y ya yb yc yd ye yf yg yh yi yj yk yl ft tr lane ml cel np sl kd hg ps rs rn rk rh lg fk gt tkn nr ru rl rm rd)) (va_Ql (fun (r : Int64) (uu : Unit) => r = -9223372036854775808) (fun (uu : Unit) t => PP g (wM g y ya yb yc yd ye yf yg yh yi yj yk yl f tr lane ml cel np sl kd hg ps rs rn rk rh lg fk gt tkn nr ru rl rm rd) t.heap) (inW (wM g y ya yb yc yd ye yf yg yh yi yj yk yl ft tr lane ml cel np sl kd hg ps rs rn rk rh lg fk gt tkn nr ru rl rm rd))) 0 0 (inW (wM g y ya yb yc yd ye yf yg yh yi yj yk yl ft tr lane ml cel np sl kd hg ps rs rn rk rh lg fk gt tkn nr ru rl rm rd)) := by
  refine zenterM (cc := cX5_lost) (maxL := 2) (ret := (some .long)) (by decide) rfl (Nat.le_of_ble_eq_true rfl) ?_
  intro P E s mt below meth cd ls hx hb hml hown hts hr hlocks hP hK hD hS hl
  skip
  have hl : lv_has ls 2 [(0, .ref y), (1, .int (nI f))] := hl
  have S0 : CallFix P mt cd cX5_lost 2 s [.ref y, .int (nI f)].toArray wsX5_lost RX5 := ⟨hx, hb, hml, hown, hts⟩
  refine lv_aload_n hx hb dX5_lost_0 rfl (lv_at hl 0 rfl) ?_
  refine lv_iload_n hx hb dX5_lost_1 rfl (lv_at hl 1 rfl) ?_
  refine n_put (D := g.1) (ci := 5) (v := .int (nI f)) (ty := .int) (C := RX5) (T := TX5) (N := 23) (ws1 := wM g y ya yb yc yd ye yf yg yh yi yj yk yl f tr lane ml cel np sl kd hg ps rs rn rk rh lg fk gt tkn nr ru rl rm rd) hx hb hts (fun _ h => (List.mem_cons_of_mem _ (List.mem_append_right _ h))) tyX5 tyX5_ok nmX5 hown hK.1 hP hD hS 0 rfl rfl 0 (by decide) (hts _ (List.mem_of_getElem? (i := 1) rfl)) (fun _ h9 => h9) rfl (by decide +kernel) rfl rfl (Nat.le_of_ble_eq_true rfl) rfl dX5_lost_2 (fun H locs hP hD hS => ?_)
  refine lv_ldc2 (v := (-9223372036854775808)) hx hb hown (hts _ (List.mem_of_getElem? (i := 2) rfl)) dX5_lost_5 ?_
  exact zretML (w1 := fun (uu : Unit) => wM g y ya yb yc yd ye yf yg yh yi yj yk yl f tr lane ml cel np sl kd hg ps rs rn rk rh lg fk gt tkn nr ru rl rm rd) () hx hb hr hlocks hS rfl hP dX5_lost_8

set_option maxHeartbeats 4000000 in
set_option maxRecDepth 100000 in
theorem c_X5_begins (l : Launch) (g : Gx) (y : Nat) (ya : Nat) (yb : Nat) (yc : Nat) (yd : Nat) (ye : Nat) (yf : Nat) (yg : Nat) (yh : Nat) (yi : Nat) (yj : Nat) (yk : Nat) (yl : Nat) (ft : Nat) (tr : Int32) (lane : Nat → Nat) (ml : Nat → Nat) (cel : Nat → Nat → Int32) (np : Nat) (sl : Nat) (kd : Nat → Nat) (hg : Nat → Nat) (ps : Nat) (rs : Int32) (rn : Nat) (rk : Nat → Int32) (rh : Nat → Int32) (lg : Int32) (fk : Int32) (gt : Int32) (tkn : Nat → Int32) (nr : Nat) (ru : Nat → Nat) (rl : Nat → Nat) (rm : Nat → Nat) (rd : Nat → Nat) (b : Nat) : Met l yX5_begins wsX5_begins ({ frames := 0, cells := 0, slots := 0, locals := 0 } : Room) (PcM g [.ref y, .int (nI b)] (wM g y ya yb yc yd ye yf yg yh yi yj yk yl ft tr lane ml cel np sl kd hg ps rs rn rk rh lg fk gt tkn nr ru rl rm rd)) (va_Qv (fun (uu : Unit) => True) (fun (uu : Unit) t => PP g (wM g y ya yb yc yd ye yf yg yh yi yj yk yl ft (lv tr b) lane ml cel np sl kd hg ps rs rn rk rh lg fk gt tkn nr ru rl rm rd) t.heap) (inW (wM g y ya yb yc yd ye yf yg yh yi yj yk yl ft tr lane ml cel np sl kd hg ps rs rn rk rh lg fk gt tkn nr ru rl rm rd))) 0 0 (inW (wM g y ya yb yc yd ye yf yg yh yi yj yk yl ft tr lane ml cel np sl kd hg ps rs rn rk rh lg fk gt tkn nr ru rl rm rd)) := by
  refine zenterM (cc := cX5_begins) (maxL := 2) (ret := none) (by decide) rfl (Nat.le_of_ble_eq_true rfl) ?_
  intro P E s mt below meth cd ls hx hb hml hown hts hr hlocks hP hK hD hS hl
  skip
  have hl : lv_has ls 2 [(0, .ref y), (1, .int (nI b))] := hl
  have S0 : CallFix P mt cd cX5_begins 2 s [.ref y, .int (nI b)].toArray wsX5_begins RX5 := ⟨hx, hb, hml, hown, hts⟩
  refine lv_aload_n hx hb dX5_begins_0 rfl (lv_at hl 0 rfl) ?_
  refine lv_bipush (v := (nI 31)) hx hb dX5_begins_1 (by decide) ?_
  refine lv_aload_n hx hb dX5_begins_3 rfl (lv_at hl 0 rfl) ?_
  refine va_get (D := g.1) (ci := 5) (v := .int tr) (C := RX5) (T := TX5) (N := 23) hx hb hts (fun _ h => (List.mem_cons_of_mem _ (List.mem_append_right _ h))) hown hK.1 hP 0 rfl rfl 1 (by decide) (hts _ (List.mem_of_getElem? (i := 1) rfl)) (fun _ h9 => h9) rfl dX5_begins_4 ?_
  refine lv_imul hx hb dX5_begins_7 ?_
  refine lv_iload_n hx hb dX5_begins_8 rfl (lv_at hl 1 rfl) ?_
  refine lv_iadd hx hb dX5_begins_9 ?_
  refine n_put (D := g.1) (ci := 5) (v := .int (((nI 31) * tr) + (nI b))) (ty := .int) (C := RX5) (T := TX5) (N := 23) (ws1 := wM g y ya yb yc yd ye yf yg yh yi yj yk yl ft (((nI 31) * tr) + (nI b)) lane ml cel np sl kd hg ps rs rn rk rh lg fk gt tkn nr ru rl rm rd) hx hb hts (fun _ h => (List.mem_cons_of_mem _ (List.mem_append_right _ h))) tyX5 tyX5_ok nmX5 hown hK.1 hP hD hS 0 rfl rfl 1 (by decide) (hts _ (List.mem_of_getElem? (i := 1) rfl)) (fun _ h9 => h9) rfl (by decide +kernel) rfl rfl (Nat.le_of_ble_eq_true rfl) rfl dX5_begins_10 (fun H locs hP hD hS => ?_)
  exact zretMV (w1 := fun (uu : Unit) => wM g y ya yb yc yd ye yf yg yh yi yj yk yl ft (lv tr b) lane ml cel np sl kd hg ps rs rn rk rh lg fk gt tkn nr ru rl rm rd) () hx hb hr hlocks hS trivial hP dX5_begins_13

set_option maxHeartbeats 4000000 in
set_option maxRecDepth 100000 in
theorem c_X5_trim (l : Launch) (g : Gx) (y : Nat) (ya : Nat) (yb : Nat) (yc : Nat) (yd : Nat) (ye : Nat) (yf : Nat) (yg : Nat) (yh : Nat) (yi : Nat) (yj : Nat) (yk : Nat) (yl : Nat) (ft : Nat) (tr : Int32) (lane : Nat → Nat) (ml : Nat → Nat) (cel : Nat → Nat → Int32) (np : Nat) (sl : Nat) (kd : Nat → Nat) (hg : Nat → Nat) (ps : Nat) (rs : Int32) (rn : Nat) (rk : Nat → Int32) (rh : Nat → Int32) (lg : Int32) (fk : Int32) (gt : Int32) (tkn : Nat → Int32) (nr : Nat) (ru : Nat → Nat) (rl : Nat → Nat) (rm : Nat → Nat) (rd : Nat → Nat) (p : Int32) (k : Int32) (v : Int32) (hG : Gd np sl kd hg nr ru rl rm rd lane ml) : Met l yX5_trim wsX5_trim ({ frames := 2, cells := 0, slots := 0, locals := 42 } : Room) (PcM g [.ref y, .int p, .int k, .int v] (wM g y ya yb yc yd ye yf yg yh yi yj yk yl ft tr lane ml cel np sl kd hg ps rs rn rk rh lg fk gt tkn nr ru rl rm rd)) (va_Qi (fun (r : Int32) (uu : Unit) => r = sp_trim np hg p k v) (fun (uu : Unit) t => PP g (wM g y ya yb yc yd ye yf yg yh yi yj yk yl ft tr lane ml cel np sl kd (st_trim np hg p k v) ps rs rn rk rh lg fk gt tkn nr ru rl rm rd) t.heap) (inW (wM g y ya yb yc yd ye yf yg yh yi yj yk yl ft tr lane ml cel np sl kd hg ps rs rn rk rh lg fk gt tkn nr ru rl rm rd))) 0 0 (inW (wM g y ya yb yc yd ye yf yg yh yi yj yk yl ft tr lane ml cel np sl kd hg ps rs rn rk rh lg fk gt tkn nr ru rl rm rd)) := by
  refine zenterM (cc := cX5_trim) (maxL := 5) (ret := (some .int)) (by decide) rfl (Nat.le_of_ble_eq_true rfl) ?_
  intro P E s mt below meth cd ls hx hb hml hown hts hr hlocks hP hK hD hS hl
  skip
  have hl : lv_has ls 5 [(0, .ref y), (1, .int p), (2, .int k), (3, .int v)] := hl
  have S0 : CallFix P mt cd cX5_trim 5 s [.ref y, .int p, .int k, .int v].toArray wsX5_trim RX5 := ⟨hx, hb, hml, hown, hts⟩
  obtain ⟨hnp, hsl, hkd, hhg, hnr, hru, hrl, hrm, hrd, hla, hmz⟩ := hG
  refine lv_aload_n hx hb dX5_trim_0 rfl (lv_at hl 0 rfl) ?_
  refine lv_iload_n hx hb dX5_trim_1 rfl (lv_at hl 1 rfl) ?_
  have hPc : PP g (wM g y ya yb yc yd ye yf yg yh yi yj yk yl ft tr lane ml cel np sl kd hg ps rs rn rk rh lg fk gt tkn nr ru rl rm rd) _ := hP
  refine zcallR (va_runV (As := [.int p]) (rest := []) (b := y) S0 (c_X5_isPass l g y ya yb yc yd ye yf yg yh yi yj yk yl ft tr lane ml cel np sl kd hg ps rs rn rk rh lg fk gt tkn nr ru rl rm rd p hnp) (cwV 1 hts gX5_trim_X5_isPass rfl rfl rfl (by decide +kernel) ⟨by decide, by decide⟩) (zpreV hK hPc (va_recv hK.1 hPc (ci := 5) (q0 := 0) rfl rfl)) rfl rfl hl.1 rfl (lv_room (Nat.le_of_ble_eq_true rfl)) dX5_trim_2 ⟨by decide, by decide⟩) (fun r2 h2 => ?_)
  rcases h2 with ⟨w_2, hw_2, hv_2, rfl⟩ | ⟨hn_2, rfl⟩
  · subst hv_2
    refine lv_if_ne (tgt := 10) hx hb dX5_trim_5 (by decide) (fun c5 => ?_) (fun c5 => ?_)
    rotate_left
    · exact absurd c5 (by decide)
    refine lv_iload_n hx hb dX5_trim_10 rfl (lv_at hl 2 rfl) ?_
    refine zcallR (va_runS (As := [.int k]) (rest := []) S0 (c_X5_isPlace l g k) (va_cwS 1 hts gX5_trim_X5_isPlace rfl rfl rfl (by decide +kernel) ⟨by decide, by decide⟩) (zpreS hK (P_nil _)) rfl rfl hl.1 rfl (lv_room (Nat.le_of_ble_eq_true rfl)) dX5_trim_11 ⟨by decide, by decide⟩) (fun r11 h11 => ?_)
    rcases h11 with ⟨w_11, hw_11, hv_11, rfl⟩ | ⟨hn_11, rfl⟩
    · subst hv_11
      refine lv_if_eq (tgt := 24) hx hb dX5_trim_14 (by decide) (fun c14 => ?_) (fun c14 => ?_)
      · exact absurd c14 (by decide)
      refine lv_iload_n hx hb dX5_trim_17 rfl (lv_at hl 3 rfl) ?_
      refine zcallR (va_runS (As := [.int v]) (rest := []) S0 (c_X5_isDigit l g v) (va_cwS 1 hts gX5_trim_X5_isDigit rfl rfl rfl (by decide +kernel) ⟨by decide, by decide⟩) (zpreS hK (P_nil _)) rfl rfl hl.1 rfl (lv_room (Nat.le_of_ble_eq_true rfl)) dX5_trim_18 ⟨by decide, by decide⟩) (fun r18 h18 => ?_)
      rcases h18 with ⟨w_18, hw_18, hv_18, rfl⟩ | ⟨hn_18, rfl⟩
      · subst hv_18
        refine lv_if_ne (tgt := 27) hx hb dX5_trim_21 (by decide) (fun c21 => ?_) (fun c21 => ?_)
        rotate_left
        · exact absurd c21 (by decide)
        refine lv_aload_n hx hb dX5_trim_27 rfl (lv_at hl 0 rfl) ?_
        refine va_get (D := g.1) (ci := 5) (v := .ref ye) (C := RX5) (T := TX5) (N := 23) hx hb hts (fun _ h => (List.mem_cons_of_mem _ (List.mem_append_right _ h))) hown hK.1 hP 0 rfl rfl 8 (by decide) (hts _ (List.mem_of_getElem? (i := 1) rfl)) (fun _ h9 => h9) rfl dX5_trim_28 ?_
        refine lv_iconst (v := (nI 3)) hx hb dX5_trim_31 (by decide) ?_
        refine lv_iload_n hx hb dX5_trim_32 rfl (lv_at hl 1 rfl) ?_
        refine n_imul (a := 3) (b := w_2) hx hb dX5_trim_33 ?_
        refine lv_iload_n hx hb dX5_trim_34 rfl (lv_at hl 2 rfl) ?_
        refine n_iadd (a := (3 * w_2)) (b := w_11) hx hb dX5_trim_35 ?_
        refine n_iald (i := ((3 * w_2) + w_11)) (v := (nI (hg ((3 * w_2) + w_11)))) hx hb hK.1 hP 5 0 rfl rfl (by omega) (by decide) rfl dX5_trim_36 ?_
        refine lv_istore (lv' := [(4, .int (nI (hg ((3 * w_2) + w_11)))), (0, .ref y), (1, .int (nI w_2)), (2, .int (nI w_11)), (3, .int (nI w_18))]) hx hb dX5_trim_37 hl (by decide) rfl (fun ls hl => ?_)
        refine lv_aload_n hx hb dX5_trim_39 rfl (lv_at hl 1 rfl) ?_
        refine va_get (D := g.1) (ci := 5) (v := .ref ye) (C := RX5) (T := TX5) (N := 23) hx hb hts (fun _ h => (List.mem_cons_of_mem _ (List.mem_append_right _ h))) hown hK.1 hP 0 rfl rfl 8 (by decide) (hts _ (List.mem_of_getElem? (i := 1) rfl)) (fun _ h9 => h9) rfl dX5_trim_40 ?_
        refine lv_iconst (v := (nI 3)) hx hb dX5_trim_43 (by decide) ?_
        refine lv_iload_n hx hb dX5_trim_44 rfl (lv_at hl 2 rfl) ?_
        refine n_imul (a := 3) (b := w_2) hx hb dX5_trim_45 ?_
        refine lv_iload_n hx hb dX5_trim_46 rfl (lv_at hl 3 rfl) ?_
        refine n_iadd (a := (3 * w_2)) (b := w_11) hx hb dX5_trim_47 ?_
        refine lv_iload_n hx hb dX5_trim_48 rfl (lv_at hl 4 rfl) ?_
        refine n_iast (i := ((3 * w_2) + w_11)) (x := (nI w_18)) (ws1 := wM g y ya yb yc yd ye yf yg yh yi yj yk yl ft tr lane ml cel np sl kd (va_up hg ((3 * w_2) + w_11) w_18) ps rs rn rk rh lg fk gt tkn nr ru rl rm rd) hx hb hK.1 hP hD hS 5 0 rfl rfl (by omega) (by decide) (fun j => nI ((va_up hg ((3 * w_2) + w_11) w_18) j)) (upd_nI _ _ _) rfl dX5_trim_49 (fun H locs hP hD hS => ?_)
        refine lv_iload hx hb dX5_trim_50 (lv_at hl 0 rfl) ?_
        exact zretMI (w1 := fun (uu : Unit) => wM g y ya yb yc yd ye yf yg yh yi yj yk yl ft tr lane ml cel np sl kd (st_trim np hg (nI w_2) (nI w_11) (nI w_18)) ps rs rn rk rh lg fk gt tkn nr ru rl rm rd) () hx hb hr hlocks hS rfl (by rw [sp_trim, if_pos (isP_of (by omega) hw_2), if_pos ⟨(isP_of (by omega) hw_11), (isP_of (by omega) hw_18)⟩, tN_nI (u := w_2) (by omega), tN_nI (u := w_11) (by omega)]) (by rw [st_trim, if_pos (isP_of (by omega) hw_2), if_pos ⟨(isP_of (by omega) hw_11), (isP_of (by omega) hw_18)⟩, tN_nI (u := w_2) (by omega), tN_nI (u := w_11) (by omega), tN_nI (u := w_18) (by omega)]; exact hP) dX5_trim_52
      · refine lv_if_ne (tgt := 27) hx hb dX5_trim_21 (by decide) (fun c21 => ?_) (fun c21 => ?_)
        · exact absurd c21 (by decide)
        refine lv_bipush (v := (-2)) hx hb dX5_trim_24 (by decide) ?_
        exact zretMI (w1 := fun (uu : Unit) => wM g y ya yb yc yd ye yf yg yh yi yj yk yl ft tr lane ml cel np sl kd (st_trim np hg (nI w_2) (nI w_11) v) ps rs rn rk rh lg fk gt tkn nr ru rl rm rd) () hx hb hr hlocks hS rfl (by rw [sp_trim, if_pos (isP_of (by omega) hw_2), if_neg (fun z => hn_18 z.2)]) (by rw [st_trim, if_pos (isP_of (by omega) hw_2), if_neg (fun z => hn_18 z.2)]; exact hP) dX5_trim_26
    · refine lv_if_eq (tgt := 24) hx hb dX5_trim_14 (by decide) (fun c14 => ?_) (fun c14 => ?_)
      rotate_left
      · exact absurd (by decide) c14
      refine lv_bipush (v := (-2)) hx hb dX5_trim_24 (by decide) ?_
      exact zretMI (w1 := fun (uu : Unit) => wM g y ya yb yc yd ye yf yg yh yi yj yk yl ft tr lane ml cel np sl kd (st_trim np hg (nI w_2) k v) ps rs rn rk rh lg fk gt tkn nr ru rl rm rd) () hx hb hr hlocks hS rfl (by rw [sp_trim, if_pos (isP_of (by omega) hw_2), if_neg (fun z => hn_11 z.1)]) (by rw [st_trim, if_pos (isP_of (by omega) hw_2), if_neg (fun z => hn_11 z.1)]; exact hP) dX5_trim_26
  · refine lv_if_ne (tgt := 10) hx hb dX5_trim_5 (by decide) (fun c5 => ?_) (fun c5 => ?_)
    · exact absurd c5 (by decide)
    refine lv_iconst (v := (-1)) hx hb dX5_trim_8 (by decide) ?_
    exact zretMI (w1 := fun (uu : Unit) => wM g y ya yb yc yd ye yf yg yh yi yj yk yl ft tr lane ml cel np sl kd (st_trim np hg p k v) ps rs rn rk rh lg fk gt tkn nr ru rl rm rd) () hx hb hr hlocks hS rfl (by rw [sp_trim, if_neg hn_2]) (by rw [st_trim, if_neg hn_2]; exact hP) dX5_trim_9

set_option maxHeartbeats 4000000 in
set_option maxRecDepth 100000 in
theorem c_X5_slack (l : Launch) (g : Gx) (y : Nat) (ya : Nat) (yb : Nat) (yc : Nat) (yd : Nat) (ye : Nat) (yf : Nat) (yg : Nat) (yh : Nat) (yi : Nat) (yj : Nat) (yk : Nat) (yl : Nat) (ft : Nat) (tr : Int32) (lane : Nat → Nat) (ml : Nat → Nat) (cel : Nat → Nat → Int32) (np : Nat) (sl : Nat) (kd : Nat → Nat) (hg : Nat → Nat) (ps : Nat) (rs : Int32) (rn : Nat) (rk : Nat → Int32) (rh : Nat → Int32) (lg : Int32) (fk : Int32) (gt : Int32) (tkn : Nat → Int32) (nr : Nat) (ru : Nat → Nat) (rl : Nat → Nat) (rm : Nat → Nat) (rd : Nat → Nat) (v : Int32) (hG : Gd np sl kd hg nr ru rl rm rd lane ml) : Met l yX5_slack wsX5_slack ({ frames := 2, cells := 0, slots := 0, locals := 42 } : Room) (PcM g [.ref y, .int v] (wM g y ya yb yc yd ye yf yg yh yi yj yk yl ft tr lane ml cel np sl kd hg ps rs rn rk rh lg fk gt tkn nr ru rl rm rd)) (va_Qi (fun (r : Int32) (uu : Unit) => r = sp_slack np sl v) (fun (uu : Unit) t => PP g (wM g y ya yb yc yd ye yf yg yh yi yj yk yl ft tr lane ml cel np (st_slack np sl v) kd hg ps rs rn rk rh lg fk gt tkn nr ru rl rm rd) t.heap) (inW (wM g y ya yb yc yd ye yf yg yh yi yj yk yl ft tr lane ml cel np sl kd hg ps rs rn rk rh lg fk gt tkn nr ru rl rm rd))) 0 0 (inW (wM g y ya yb yc yd ye yf yg yh yi yj yk yl ft tr lane ml cel np sl kd hg ps rs rn rk rh lg fk gt tkn nr ru rl rm rd)) := by
  refine zenterM (cc := cX5_slack) (maxL := 3) (ret := (some .int)) (by decide) rfl (Nat.le_of_ble_eq_true rfl) ?_
  intro P E s mt below meth cd ls hx hb hml hown hts hr hlocks hP hK hD hS hl
  skip
  have hl : lv_has ls 3 [(0, .ref y), (1, .int v)] := hl
  have S0 : CallFix P mt cd cX5_slack 3 s [.ref y, .int v].toArray wsX5_slack RX5 := ⟨hx, hb, hml, hown, hts⟩
  obtain ⟨hnp, hsl, hkd, hhg, hnr, hru, hrl, hrm, hrd, hla, hmz⟩ := hG
  refine lv_iload_n hx hb dX5_slack_0 rfl (lv_at hl 1 rfl) ?_
  refine zcallR (va_runS (As := [.int v]) (rest := []) S0 (c_X5_isDigit l g v) (va_cwS 1 hts gX5_slack_X5_isDigit rfl rfl rfl (by decide +kernel) ⟨by decide, by decide⟩) (zpreS hK (P_nil _)) rfl rfl hl.1 rfl (lv_room (Nat.le_of_ble_eq_true rfl)) dX5_slack_1 ⟨by decide, by decide⟩) (fun r1 h1 => ?_)
  rcases h1 with ⟨w_1, hw_1, hv_1, rfl⟩ | ⟨hn_1, rfl⟩
  · subst hv_1
    refine lv_if_ne (tgt := 10) hx hb dX5_slack_4 (by decide) (fun c4 => ?_) (fun c4 => ?_)
    rotate_left
    · exact absurd c4 (by decide)
    refine lv_aload_n hx hb dX5_slack_10 rfl (lv_at hl 0 rfl) ?_
    refine va_get (D := g.1) (ci := 5) (v := .int (nI np)) (C := RX5) (T := TX5) (N := 23) hx hb hts (fun _ h => (List.mem_cons_of_mem _ (List.mem_append_right _ h))) hown hK.1 hP 0 rfl rfl 5 (by decide) (hts _ (List.mem_of_getElem? (i := 1) rfl)) (fun _ h9 => h9) rfl dX5_slack_11 ?_
    refine n_if_ne (a := np) (tgt := 20) hx hb (by omega) dX5_slack_14 (by decide) (fun c14 => ?_) (fun c14 => ?_)
    · refine lv_aload_n hx hb dX5_slack_20 rfl (lv_at hl 0 rfl) ?_
      refine va_get (D := g.1) (ci := 5) (v := .int (nI sl)) (C := RX5) (T := TX5) (N := 23) hx hb hts (fun _ h => (List.mem_cons_of_mem _ (List.mem_append_right _ h))) hown hK.1 hP 0 rfl rfl 6 (by decide) (hts _ (List.mem_of_getElem? (i := 2) rfl)) (fun _ h9 => h9) rfl dX5_slack_21 ?_
      refine lv_istore_n (lv' := [(2, .int (nI sl)), (0, .ref y), (1, .int (nI w_1))]) hx hb dX5_slack_24 rfl hl (by decide) rfl (fun ls hl => ?_)
      refine lv_aload_n hx hb dX5_slack_25 rfl (lv_at hl 1 rfl) ?_
      refine lv_iload_n hx hb dX5_slack_26 rfl (lv_at hl 2 rfl) ?_
      refine n_put (D := g.1) (ci := 5) (v := .int (nI w_1)) (ty := .int) (C := RX5) (T := TX5) (N := 23) (ws1 := wM g y ya yb yc yd ye yf yg yh yi yj yk yl ft tr lane ml cel np w_1 kd hg ps rs rn rk rh lg fk gt tkn nr ru rl rm rd) hx hb hts (fun _ h => (List.mem_cons_of_mem _ (List.mem_append_right _ h))) tyX5 tyX5_ok nmX5 hown hK.1 hP hD hS 0 rfl rfl 6 (by decide) (hts _ (List.mem_of_getElem? (i := 2) rfl)) (fun _ h9 => h9) rfl (by decide +kernel) rfl rfl (Nat.le_of_ble_eq_true rfl) rfl dX5_slack_27 (fun H locs hP hD hS => ?_)
      refine lv_iload_n hx hb dX5_slack_30 rfl (lv_at hl 0 rfl) ?_
      exact zretMI (w1 := fun (uu : Unit) => wM g y ya yb yc yd ye yf yg yh yi yj yk yl ft tr lane ml cel np (st_slack np sl (nI w_1)) kd hg ps rs rn rk rh lg fk gt tkn nr ru rl rm rd) () hx hb hr hlocks hS rfl (by rw [sp_slack, if_pos (isP_of (by omega) hw_1), if_pos (by omega)]) (by rw [st_slack, if_pos (isP_of (by omega) hw_1), if_pos (by omega), tN_nI (u := w_1) (by omega)]; exact hP) dX5_slack_31
    · refine lv_bipush (v := (-3)) hx hb dX5_slack_17 (by decide) ?_
      exact zretMI (w1 := fun (uu : Unit) => wM g y ya yb yc yd ye yf yg yh yi yj yk yl ft tr lane ml cel np (st_slack np sl (nI w_1)) kd hg ps rs rn rk rh lg fk gt tkn nr ru rl rm rd) () hx hb hr hlocks hS rfl (by rw [sp_slack, if_pos (isP_of (by omega) hw_1), if_neg (by omega)]) (by rw [st_slack, if_pos (isP_of (by omega) hw_1), if_neg (by omega)]; exact hP) dX5_slack_19
  · refine lv_if_ne (tgt := 10) hx hb dX5_slack_4 (by decide) (fun c4 => ?_) (fun c4 => ?_)
    · exact absurd c4 (by decide)
    refine lv_bipush (v := (-2)) hx hb dX5_slack_7 (by decide) ?_
    exact zretMI (w1 := fun (uu : Unit) => wM g y ya yb yc yd ye yf yg yh yi yj yk yl ft tr lane ml cel np (st_slack np sl v) kd hg ps rs rn rk rh lg fk gt tkn nr ru rl rm rd) () hx hb hr hlocks hS rfl (by rw [sp_slack, if_neg hn_1]) (by rw [st_slack, if_neg hn_1]; exact hP) dX5_slack_9

set_option maxHeartbeats 4000000 in
set_option maxRecDepth 100000 in
theorem c_X5_worn (l : Launch) (g : Gx) (y : Nat) (ya : Nat) (yb : Nat) (yc : Nat) (yd : Nat) (ye : Nat) (yf : Nat) (yg : Nat) (yh : Nat) (yi : Nat) (yj : Nat) (yk : Nat) (yl : Nat) (ft : Nat) (tr : Int32) (lane : Nat → Nat) (ml : Nat → Nat) (cel : Nat → Nat → Int32) (np : Nat) (sl : Nat) (kd : Nat → Nat) (hg : Nat → Nat) (ps : Nat) (rs : Int32) (rn : Nat) (rk : Nat → Int32) (rh : Nat → Int32) (lg : Int32) (fk : Int32) (gt : Int32) (tkn : Nat → Int32) (nr : Nat) (ru : Nat → Nat) (rl : Nat → Nat) (rm : Nat → Nat) (rd : Nat → Nat) (p : Int32) (k : Int32) (m : Int32) (hG : Gd np sl kd hg nr ru rl rm rd lane ml) : Met l yX5_worn wsX5_worn ({ frames := 2, cells := 0, slots := 0, locals := 42 } : Room) (PcR g [.ref y, .int p, .int k, .int m] (wM g y ya yb yc yd ye yf yg yh yi yj yk yl ft tr lane ml cel np sl kd hg ps rs rn rk rh lg fk gt tkn nr ru rl rm rd)) (vp_Si (fun r => r = sp_worn np kd hg p k m)) 0 0 (fun _ => False) := by
  refine zenterR (cc := cX5_worn) (maxL := 4) (ret := (some .int)) (by decide) rfl (Nat.le_of_ble_eq_true rfl) ?_
  intro P E s mt below meth cd ls hx hb hml hown hts hr hlocks hP hK hl
  have hl : lv_has ls 4 [(0, .ref y), (1, .int p), (2, .int k), (3, .int m)] := hl
  have S0 : CallFix P mt cd cX5_worn 4 s [.ref y, .int p, .int k, .int m].toArray wsX5_worn RX5 := ⟨hx, hb, hml, hown, hts⟩
  obtain ⟨hnp, hsl, hkd, hhg, hnr, hru, hrl, hrm, hrd, hla, hmz⟩ := hG
  refine lv_aload_n hx hb dX5_worn_0 rfl (lv_at hl 0 rfl) ?_
  refine lv_iload_n hx hb dX5_worn_1 rfl (lv_at hl 1 rfl) ?_
  have hPc : PP g (wM g y ya yb yc yd ye yf yg yh yi yj yk yl ft tr lane ml cel np sl kd hg ps rs rn rk rh lg fk gt tkn nr ru rl rm rd) _ := hP
  refine zcallR (va_runV (As := [.int p]) (rest := []) (b := y) S0 (c_X5_isPass l g y ya yb yc yd ye yf yg yh yi yj yk yl ft tr lane ml cel np sl kd hg ps rs rn rk rh lg fk gt tkn nr ru rl rm rd p hnp) (cwV 1 hts gX5_worn_X5_isPass rfl rfl rfl (by decide +kernel) ⟨by decide, by decide⟩) (zpreV hK hPc (va_recv hK.1 hPc (ci := 5) (q0 := 0) rfl rfl)) rfl rfl hl.1 rfl (lv_room (Nat.le_of_ble_eq_true rfl)) dX5_worn_2 ⟨by decide, by decide⟩) (fun r2 h2 => ?_)
  rcases h2 with ⟨w_2, hw_2, hv_2, rfl⟩ | ⟨hn_2, rfl⟩
  · subst hv_2
    refine lv_if_ne (tgt := 10) hx hb dX5_worn_5 (by decide) (fun c5 => ?_) (fun c5 => ?_)
    rotate_left
    · exact absurd c5 (by decide)
    refine lv_iload_n hx hb dX5_worn_10 rfl (lv_at hl 2 rfl) ?_
    refine zcallR (va_runS (As := [.int k]) (rest := []) S0 (c_X5_isPlace l g k) (va_cwS 1 hts gX5_worn_X5_isPlace rfl rfl rfl (by decide +kernel) ⟨by decide, by decide⟩) (zpreS hK (P_nil _)) rfl rfl hl.1 rfl (lv_room (Nat.le_of_ble_eq_true rfl)) dX5_worn_11 ⟨by decide, by decide⟩) (fun r11 h11 => ?_)
    rcases h11 with ⟨w_11, hw_11, hv_11, rfl⟩ | ⟨hn_11, rfl⟩
    · subst hv_11
      refine lv_if_eq (tgt := 34) hx hb dX5_worn_14 (by decide) (fun c14 => ?_) (fun c14 => ?_)
      · exact absurd c14 (by decide)
      refine lv_iload_n hx hb dX5_worn_17 rfl (lv_at hl 3 rfl) ?_
      refine zcallR (va_runS (As := [.int m]) (rest := []) S0 (c_X5_isDigit l g m) (va_cwS 1 hts gX5_worn_X5_isDigit rfl rfl rfl (by decide +kernel) ⟨by decide, by decide⟩) (zpreS hK (P_nil _)) rfl rfl hl.1 rfl (lv_room (Nat.le_of_ble_eq_true rfl)) dX5_worn_18 ⟨by decide, by decide⟩) (fun r18 h18 => ?_)
      rcases h18 with ⟨w_18, hw_18, hv_18, rfl⟩ | ⟨hn_18, rfl⟩
      · subst hv_18
        refine lv_if_eq (tgt := 34) hx hb dX5_worn_21 (by decide) (fun c21 => ?_) (fun c21 => ?_)
        · exact absurd c21 (by decide)
        refine lv_aload_n hx hb dX5_worn_24 rfl (lv_at hl 0 rfl) ?_
        refine lv_iload_n hx hb dX5_worn_25 rfl (lv_at hl 1 rfl) ?_
        refine lv_iload_n hx hb dX5_worn_26 rfl (lv_at hl 2 rfl) ?_
        refine lv_iload_n hx hb dX5_worn_27 rfl (lv_at hl 3 rfl) ?_
        have hPc : PP g (wM g y ya yb yc yd ye yf yg yh yi yj yk yl ft tr lane ml cel np sl kd hg ps rs rn rk rh lg fk gt tkn nr ru rl rm rd) _ := hP
        refine zcallR (va_runV (As := [.int (nI w_2), .int (nI w_11), .int (nI w_18)]) (rest := []) (b := y) S0 (c_X5_lower l g y ya yb yc yd ye yf yg yh yi yj yk yl ft tr lane ml cel np sl kd hg ps rs rn rk rh lg fk gt tkn nr ru rl rm rd w_2 w_11 w_18 hnp hkd hhg (by omega) (by omega) (by omega)) (cwV 3 hts gX5_worn_X5_lower rfl rfl rfl (by decide +kernel) ⟨by decide, by decide⟩) (zpreV hK hPc (va_recv hK.1 hPc (ci := 5) (q0 := 0) rfl rfl)) rfl rfl hl.1 rfl (lv_room (Nat.le_of_ble_eq_true rfl)) dX5_worn_28 ⟨by decide, by decide⟩) (fun r28 h28 => ?_)
        subst h28
        have f1 := lo_le kd hhg w_2 w_11 w_18
        refine lv_goto (tgt := 36) hx hb dX5_worn_31 (by decide) ?_
        exact zretI hx hb hr hlocks rfl (by rw [sp_worn, if_pos (isP_of (by omega) hw_2), if_pos ⟨(isP_of (by omega) hw_11), (isP_of (by omega) hw_18)⟩, tN_nI (u := w_2) (by omega), tN_nI (u := w_11) (by omega), tN_nI (u := w_18) (by omega)]) dX5_worn_36
      · refine lv_if_eq (tgt := 34) hx hb dX5_worn_21 (by decide) (fun c21 => ?_) (fun c21 => ?_)
        rotate_left
        · exact absurd (by decide) c21
        refine lv_bipush (v := (-2)) hx hb dX5_worn_34 (by decide) ?_
        exact zretI hx hb hr hlocks rfl (by rw [sp_worn, if_pos (isP_of (by omega) hw_2), if_neg (fun z => hn_18 z.2)]) dX5_worn_36
    · refine lv_if_eq (tgt := 34) hx hb dX5_worn_14 (by decide) (fun c14 => ?_) (fun c14 => ?_)
      rotate_left
      · exact absurd (by decide) c14
      refine lv_bipush (v := (-2)) hx hb dX5_worn_34 (by decide) ?_
      exact zretI hx hb hr hlocks rfl (by rw [sp_worn, if_pos (isP_of (by omega) hw_2), if_neg (fun z => hn_11 z.1)]) dX5_worn_36
  · refine lv_if_ne (tgt := 10) hx hb dX5_worn_5 (by decide) (fun c5 => ?_) (fun c5 => ?_)
    · exact absurd c5 (by decide)
    refine lv_iconst (v := (-1)) hx hb dX5_worn_8 (by decide) ?_
    exact zretI hx hb hr hlocks rfl (by rw [sp_worn, if_neg hn_2]) dX5_worn_9

set_option maxHeartbeats 4000000 in
set_option maxRecDepth 100000 in
theorem c_X5_off (l : Launch) (g : Gx) (y : Nat) (ya : Nat) (yb : Nat) (yc : Nat) (yd : Nat) (ye : Nat) (yf : Nat) (yg : Nat) (yh : Nat) (yi : Nat) (yj : Nat) (yk : Nat) (yl : Nat) (ft : Nat) (tr : Int32) (lane : Nat → Nat) (ml : Nat → Nat) (cel : Nat → Nat → Int32) (np : Nat) (sl : Nat) (kd : Nat → Nat) (hg : Nat → Nat) (ps : Nat) (rs : Int32) (rn : Nat) (rk : Nat → Int32) (rh : Nat → Int32) (lg : Int32) (fk : Int32) (gt : Int32) (tkn : Nat → Int32) (nr : Nat) (ru : Nat → Nat) (rl : Nat → Nat) (rm : Nat → Nat) (rd : Nat → Nat) (p : Int32) (q : Int32) (m : Int32) (hG : Gd np sl kd hg nr ru rl rm rd lane ml) : Met l yX5_off wsX5_off ({ frames := 2, cells := 0, slots := 0, locals := 50 } : Room) (PcR g [.ref y, .int p, .int q, .int m] (wM g y ya yb yc yd ye yf yg yh yi yj yk yl ft tr lane ml cel np sl kd hg ps rs rn rk rh lg fk gt tkn nr ru rl rm rd)) (vp_Si (fun r => r = sp_off np kd hg p q m)) 0 0 (fun _ => False) := by
  refine zenterR (cc := cX5_off) (maxL := 4) (ret := (some .int)) (by decide) rfl (Nat.le_of_ble_eq_true rfl) ?_
  intro P E s mt below meth cd ls hx hb hml hown hts hr hlocks hP hK hl
  have hl : lv_has ls 4 [(0, .ref y), (1, .int p), (2, .int q), (3, .int m)] := hl
  have S0 : CallFix P mt cd cX5_off 4 s [.ref y, .int p, .int q, .int m].toArray wsX5_off RX5 := ⟨hx, hb, hml, hown, hts⟩
  obtain ⟨hnp, hsl, hkd, hhg, hnr, hru, hrl, hrm, hrd, hla, hmz⟩ := hG
  refine lv_aload_n hx hb dX5_off_0 rfl (lv_at hl 0 rfl) ?_
  refine lv_iload_n hx hb dX5_off_1 rfl (lv_at hl 1 rfl) ?_
  have hPc : PP g (wM g y ya yb yc yd ye yf yg yh yi yj yk yl ft tr lane ml cel np sl kd hg ps rs rn rk rh lg fk gt tkn nr ru rl rm rd) _ := hP
  refine zcallR (va_runV (As := [.int p]) (rest := []) (b := y) S0 (c_X5_isPass l g y ya yb yc yd ye yf yg yh yi yj yk yl ft tr lane ml cel np sl kd hg ps rs rn rk rh lg fk gt tkn nr ru rl rm rd p hnp) (cwV 1 hts gX5_off_X5_isPass rfl rfl rfl (by decide +kernel) ⟨by decide, by decide⟩) (zpreV hK hPc (va_recv hK.1 hPc (ci := 5) (q0 := 0) rfl rfl)) rfl rfl hl.1 rfl (lv_room (Nat.le_of_ble_eq_true rfl)) dX5_off_2 ⟨by decide, by decide⟩) (fun r2 h2 => ?_)
  rcases h2 with ⟨w_2, hw_2, hv_2, rfl⟩ | ⟨hn_2, rfl⟩
  · subst hv_2
    refine lv_if_eq (tgt := 16) hx hb dX5_off_5 (by decide) (fun c5 => ?_) (fun c5 => ?_)
    · exact absurd c5 (by decide)
    refine lv_aload_n hx hb dX5_off_8 rfl (lv_at hl 0 rfl) ?_
    refine lv_iload_n hx hb dX5_off_9 rfl (lv_at hl 2 rfl) ?_
    have hPc : PP g (wM g y ya yb yc yd ye yf yg yh yi yj yk yl ft tr lane ml cel np sl kd hg ps rs rn rk rh lg fk gt tkn nr ru rl rm rd) _ := hP
    refine zcallR (va_runV (As := [.int q]) (rest := []) (b := y) S0 (c_X5_isPass l g y ya yb yc yd ye yf yg yh yi yj yk yl ft tr lane ml cel np sl kd hg ps rs rn rk rh lg fk gt tkn nr ru rl rm rd q hnp) (cwV 1 hts gX5_off_X5_isPass rfl rfl rfl (by decide +kernel) ⟨by decide, by decide⟩) (zpreV hK hPc (va_recv hK.1 hPc (ci := 5) (q0 := 0) rfl rfl)) rfl rfl hl.1 rfl (lv_room (Nat.le_of_ble_eq_true rfl)) dX5_off_10 ⟨by decide, by decide⟩) (fun r10 h10 => ?_)
    rcases h10 with ⟨w_10, hw_10, hv_10, rfl⟩ | ⟨hn_10, rfl⟩
    · subst hv_10
      refine lv_if_ne (tgt := 18) hx hb dX5_off_13 (by decide) (fun c13 => ?_) (fun c13 => ?_)
      rotate_left
      · exact absurd c13 (by decide)
      refine lv_iload_n hx hb dX5_off_18 rfl (lv_at hl 3 rfl) ?_
      refine zcallR (va_runS (As := [.int m]) (rest := []) S0 (c_X5_isDigit l g m) (va_cwS 1 hts gX5_off_X5_isDigit rfl rfl rfl (by decide +kernel) ⟨by decide, by decide⟩) (zpreS hK (P_nil _)) rfl rfl hl.1 rfl (lv_room (Nat.le_of_ble_eq_true rfl)) dX5_off_19 ⟨by decide, by decide⟩) (fun r19 h19 => ?_)
      rcases h19 with ⟨w_19, hw_19, hv_19, rfl⟩ | ⟨hn_19, rfl⟩
      · subst hv_19
        refine lv_if_eq (tgt := 35) hx hb dX5_off_22 (by decide) (fun c22 => ?_) (fun c22 => ?_)
        · exact absurd c22 (by decide)
        refine lv_aload_n hx hb dX5_off_25 rfl (lv_at hl 0 rfl) ?_
        refine lv_iload_n hx hb dX5_off_26 rfl (lv_at hl 1 rfl) ?_
        refine lv_iload_n hx hb dX5_off_27 rfl (lv_at hl 2 rfl) ?_
        refine lv_iload_n hx hb dX5_off_28 rfl (lv_at hl 3 rfl) ?_
        have hPc : PP g (wM g y ya yb yc yd ye yf yg yh yi yj yk yl ft tr lane ml cel np sl kd hg ps rs rn rk rh lg fk gt tkn nr ru rl rm rd) _ := hP
        refine zcallR (va_runV (As := [.int (nI w_2), .int (nI w_10), .int (nI w_19)]) (rest := []) (b := y) S0 (c_X5_offOf l g y ya yb yc yd ye yf yg yh yi yj yk yl ft tr lane ml cel np sl kd hg ps rs rn rk rh lg fk gt tkn nr ru rl rm rd w_2 w_10 w_19 hnp hkd hhg (by omega) (by omega) (by omega)) (cwV 3 hts gX5_off_X5_offOf rfl rfl rfl (by decide +kernel) ⟨by decide, by decide⟩) (zpreV hK hPc (va_recv hK.1 hPc (ci := 5) (q0 := 0) rfl rfl)) rfl rfl hl.1 rfl (lv_room (Nat.le_of_ble_eq_true rfl)) dX5_off_29 ⟨by decide, by decide⟩) (fun r29 h29 => ?_)
        subst h29
        have f1 := ap_le kd hhg w_2 w_10 w_19
        refine lv_goto (tgt := 37) hx hb dX5_off_32 (by decide) ?_
        exact zretI hx hb hr hlocks rfl (by rw [sp_off, if_pos ⟨(isP_of (by omega) hw_2), (isP_of (by omega) hw_10)⟩, if_pos (isP_of (by omega) hw_19), tN_nI (u := w_2) (by omega), tN_nI (u := w_10) (by omega), tN_nI (u := w_19) (by omega)]) dX5_off_37
      · refine lv_if_eq (tgt := 35) hx hb dX5_off_22 (by decide) (fun c22 => ?_) (fun c22 => ?_)
        rotate_left
        · exact absurd (by decide) c22
        refine lv_bipush (v := (-2)) hx hb dX5_off_35 (by decide) ?_
        exact zretI hx hb hr hlocks rfl (by rw [sp_off, if_pos ⟨(isP_of (by omega) hw_2), (isP_of (by omega) hw_10)⟩, if_neg hn_19]) dX5_off_37
    · refine lv_if_ne (tgt := 18) hx hb dX5_off_13 (by decide) (fun c13 => ?_) (fun c13 => ?_)
      · exact absurd c13 (by decide)
      refine lv_iconst (v := (-1)) hx hb dX5_off_16 (by decide) ?_
      exact zretI hx hb hr hlocks rfl (by rw [sp_off, if_neg (fun z => hn_10 z.2)]) dX5_off_17
  · refine lv_if_eq (tgt := 16) hx hb dX5_off_5 (by decide) (fun c5 => ?_) (fun c5 => ?_)
    rotate_left
    · exact absurd (by decide) c5
    refine lv_iconst (v := (-1)) hx hb dX5_off_16 (by decide) ?_
    exact zretI hx hb hr hlocks rfl (by rw [sp_off, if_neg (fun z => hn_2 z.1)]) dX5_off_17

set_option maxHeartbeats 4000000 in
set_option maxRecDepth 100000 in
theorem c_X5_fits (l : Launch) (g : Gx) (y : Nat) (ya : Nat) (yb : Nat) (yc : Nat) (yd : Nat) (ye : Nat) (yf : Nat) (yg : Nat) (yh : Nat) (yi : Nat) (yj : Nat) (yk : Nat) (yl : Nat) (ft : Nat) (tr : Int32) (lane : Nat → Nat) (ml : Nat → Nat) (cel : Nat → Nat → Int32) (np : Nat) (sl : Nat) (kd : Nat → Nat) (hg : Nat → Nat) (ps : Nat) (rs : Int32) (rn : Nat) (rk : Nat → Int32) (rh : Nat → Int32) (lg : Int32) (fk : Int32) (gt : Int32) (tkn : Nat → Int32) (nr : Nat) (ru : Nat → Nat) (rl : Nat → Nat) (rm : Nat → Nat) (rd : Nat → Nat) (q : Int32) (m : Int32) (hG : Gd np sl kd hg nr ru rl rm rd lane ml) : Met l yX5_fits wsX5_fits ({ frames := 4, cells := 0, slots := 0, locals := 97 } : Room) (PcR g [.ref y, .int q, .int m] (wM g y ya yb yc yd ye yf yg yh yi yj yk yl ft tr lane ml cel np sl kd hg ps rs rn rk rh lg fk gt tkn nr ru rl rm rd)) (vp_Si (fun r => r = sp_fits np sl kd hg q m)) 0 0 (fun _ => False) := by
  refine zenterR (cc := cX5_fits) (maxL := 3) (ret := (some .int)) (by decide) rfl (Nat.le_of_ble_eq_true rfl) ?_
  intro P E s mt below meth cd ls hx hb hml hown hts hr hlocks hP hK hl
  have hl : lv_has ls 3 [(0, .ref y), (1, .int q), (2, .int m)] := hl
  have S0 : CallFix P mt cd cX5_fits 3 s [.ref y, .int q, .int m].toArray wsX5_fits RX5 := ⟨hx, hb, hml, hown, hts⟩
  obtain ⟨hnp, hsl, hkd, hhg, hnr, hru, hrl, hrm, hrd, hla, hmz⟩ := hG
  refine lv_aload_n hx hb dX5_fits_0 rfl (lv_at hl 0 rfl) ?_
  refine lv_iload_n hx hb dX5_fits_1 rfl (lv_at hl 1 rfl) ?_
  have hPc : PP g (wM g y ya yb yc yd ye yf yg yh yi yj yk yl ft tr lane ml cel np sl kd hg ps rs rn rk rh lg fk gt tkn nr ru rl rm rd) _ := hP
  refine zcallR (va_runV (As := [.int q]) (rest := []) (b := y) S0 (c_X5_isPass l g y ya yb yc yd ye yf yg yh yi yj yk yl ft tr lane ml cel np sl kd hg ps rs rn rk rh lg fk gt tkn nr ru rl rm rd q hnp) (cwV 1 hts gX5_fits_X5_isPass rfl rfl rfl (by decide +kernel) ⟨by decide, by decide⟩) (zpreV hK hPc (va_recv hK.1 hPc (ci := 5) (q0 := 0) rfl rfl)) rfl rfl hl.1 rfl (lv_room (Nat.le_of_ble_eq_true rfl)) dX5_fits_2 ⟨by decide, by decide⟩) (fun r2 h2 => ?_)
  rcases h2 with ⟨w_2, hw_2, hv_2, rfl⟩ | ⟨hn_2, rfl⟩
  · subst hv_2
    refine lv_if_ne (tgt := 10) hx hb dX5_fits_5 (by decide) (fun c5 => ?_) (fun c5 => ?_)
    rotate_left
    · exact absurd c5 (by decide)
    refine lv_iload_n hx hb dX5_fits_10 rfl (lv_at hl 2 rfl) ?_
    refine zcallR (va_runS (As := [.int m]) (rest := []) S0 (c_X5_isDigit l g m) (va_cwS 1 hts gX5_fits_X5_isDigit rfl rfl rfl (by decide +kernel) ⟨by decide, by decide⟩) (zpreS hK (P_nil _)) rfl rfl hl.1 rfl (lv_room (Nat.le_of_ble_eq_true rfl)) dX5_fits_11 ⟨by decide, by decide⟩) (fun r11 h11 => ?_)
    rcases h11 with ⟨w_11, hw_11, hv_11, rfl⟩ | ⟨hn_11, rfl⟩
    · subst hv_11
      refine lv_if_eq (tgt := 26) hx hb dX5_fits_14 (by decide) (fun c14 => ?_) (fun c14 => ?_)
      · exact absurd c14 (by decide)
      refine lv_aload_n hx hb dX5_fits_17 rfl (lv_at hl 0 rfl) ?_
      refine lv_iload_n hx hb dX5_fits_18 rfl (lv_at hl 1 rfl) ?_
      refine lv_iload_n hx hb dX5_fits_19 rfl (lv_at hl 2 rfl) ?_
      have hPc : PP g (wM g y ya yb yc yd ye yf yg yh yi yj yk yl ft tr lane ml cel np sl kd hg ps rs rn rk rh lg fk gt tkn nr ru rl rm rd) _ := hP
      refine zcallR (va_runV (As := [.int (nI w_2), .int (nI w_11)]) (rest := []) (b := y) S0 (c_X5_fitsOf l g y ya yb yc yd ye yf yg yh yi yj yk yl ft tr lane ml cel np sl kd hg ps rs rn rk rh lg fk gt tkn nr ru rl rm rd w_2 w_11 hnp hsl hkd hhg (by omega) (by omega)) (cwV 2 hts gX5_fits_X5_fitsOf rfl rfl rfl (by decide +kernel) ⟨by decide, by decide⟩) (zpreV hK hPc (va_recv hK.1 hPc (ci := 5) (q0 := 0) rfl rfl)) rfl rfl hl.1 rfl (lv_room (Nat.le_of_ble_eq_true rfl)) dX5_fits_20 ⟨by decide, by decide⟩) (fun r20 h20 => ?_)
      subst h20
      have f1 := fset_64 hnp sl kd hg w_2 w_11
      refine lv_goto (tgt := 28) hx hb dX5_fits_23 (by decide) ?_
      exact zretI hx hb hr hlocks rfl (by rw [sp_fits, if_pos (isP_of (by omega) hw_2), if_pos (isP_of (by omega) hw_11), tN_nI (u := w_2) (by omega), tN_nI (u := w_11) (by omega)]) dX5_fits_28
    · refine lv_if_eq (tgt := 26) hx hb dX5_fits_14 (by decide) (fun c14 => ?_) (fun c14 => ?_)
      rotate_left
      · exact absurd (by decide) c14
      refine lv_bipush (v := (-2)) hx hb dX5_fits_26 (by decide) ?_
      exact zretI hx hb hr hlocks rfl (by rw [sp_fits, if_pos (isP_of (by omega) hw_2), if_neg hn_11]) dX5_fits_28
  · refine lv_if_ne (tgt := 10) hx hb dX5_fits_5 (by decide) (fun c5 => ?_) (fun c5 => ?_)
    · exact absurd c5 (by decide)
    refine lv_iconst (v := (-1)) hx hb dX5_fits_8 (by decide) ?_
    exact zretI hx hb hr hlocks rfl (by rw [sp_fits, if_neg hn_2]) dX5_fits_9

set_option maxHeartbeats 4000000 in
set_option maxRecDepth 100000 in
theorem c_X5_match (l : Launch) (g : Gx) (y : Nat) (ya : Nat) (yb : Nat) (yc : Nat) (yd : Nat) (ye : Nat) (yf : Nat) (yg : Nat) (yh : Nat) (yi : Nat) (yj : Nat) (yk : Nat) (yl : Nat) (ft : Nat) (tr : Int32) (lane : Nat → Nat) (ml : Nat → Nat) (cel : Nat → Nat → Int32) (np : Nat) (sl : Nat) (kd : Nat → Nat) (hg : Nat → Nat) (ps : Nat) (rs : Int32) (rn : Nat) (rk : Nat → Int32) (rh : Nat → Int32) (lg : Int32) (fk : Int32) (gt : Int32) (tkn : Nat → Int32) (nr : Nat) (ru : Nat → Nat) (rl : Nat → Nat) (rm : Nat → Nat) (rd : Nat → Nat) (q : Int32) (m : Int32) (hG : Gd np sl kd hg nr ru rl rm rd lane ml) : Met l yX5_match wsX5_match ({ frames := 3, cells := 0, slots := 0, locals := 73 } : Room) (PcR g [.ref y, .int q, .int m] (wM g y ya yb yc yd ye yf yg yh yi yj yk yl ft tr lane ml cel np sl kd hg ps rs rn rk rh lg fk gt tkn nr ru rl rm rd)) (vp_Si (fun r => r = sp_match np sl kd hg q m)) 0 0 (fun _ => False) := by
  refine zenterR (cc := cX5_match) (maxL := 5) (ret := (some .int)) (by decide) rfl (Nat.le_of_ble_eq_true rfl) ?_
  intro P E s mt below meth cd ls hx hb hml hown hts hr hlocks hP hK hl
  have hl : lv_has ls 5 [(0, .ref y), (1, .int q), (2, .int m)] := hl
  have S0 : CallFix P mt cd cX5_match 5 s [.ref y, .int q, .int m].toArray wsX5_match RX5 := ⟨hx, hb, hml, hown, hts⟩
  obtain ⟨hnp, hsl, hkd, hhg, hnr, hru, hrl, hrm, hrd, hla, hmz⟩ := hG
  refine lv_aload_n hx hb dX5_match_0 rfl (lv_at hl 0 rfl) ?_
  refine lv_iload_n hx hb dX5_match_1 rfl (lv_at hl 1 rfl) ?_
  have hPc : PP g (wM g y ya yb yc yd ye yf yg yh yi yj yk yl ft tr lane ml cel np sl kd hg ps rs rn rk rh lg fk gt tkn nr ru rl rm rd) _ := hP
  refine zcallR (va_runV (As := [.int q]) (rest := []) (b := y) S0 (c_X5_isPass l g y ya yb yc yd ye yf yg yh yi yj yk yl ft tr lane ml cel np sl kd hg ps rs rn rk rh lg fk gt tkn nr ru rl rm rd q hnp) (cwV 1 hts gX5_match_X5_isPass rfl rfl rfl (by decide +kernel) ⟨by decide, by decide⟩) (zpreV hK hPc (va_recv hK.1 hPc (ci := 5) (q0 := 0) rfl rfl)) rfl rfl hl.1 rfl (lv_room (Nat.le_of_ble_eq_true rfl)) dX5_match_2 ⟨by decide, by decide⟩) (fun r2 h2 => ?_)
  rcases h2 with ⟨w_2, hw_2, hv_2, rfl⟩ | ⟨hn_2, rfl⟩
  · subst hv_2
    refine lv_if_ne (tgt := 10) hx hb dX5_match_5 (by decide) (fun c5 => ?_) (fun c5 => ?_)
    rotate_left
    · exact absurd c5 (by decide)
    refine lv_iload_n hx hb dX5_match_10 rfl (lv_at hl 2 rfl) ?_
    refine zcallR (va_runS (As := [.int m]) (rest := []) S0 (c_X5_isDigit l g m) (va_cwS 1 hts gX5_match_X5_isDigit rfl rfl rfl (by decide +kernel) ⟨by decide, by decide⟩) (zpreS hK (P_nil _)) rfl rfl hl.1 rfl (lv_room (Nat.le_of_ble_eq_true rfl)) dX5_match_11 ⟨by decide, by decide⟩) (fun r11 h11 => ?_)
    rcases h11 with ⟨w_11, hw_11, hv_11, rfl⟩ | ⟨hn_11, rfl⟩
    · subst hv_11
      refine lv_if_ne (tgt := 20) hx hb dX5_match_14 (by decide) (fun c14 => ?_) (fun c14 => ?_)
      rotate_left
      · exact absurd c14 (by decide)
      refine lv_bipush (v := (-9)) hx hb dX5_match_20 (by decide) ?_
      refine lv_istore_n (lv' := [(3, .int (-9)), (0, .ref y), (1, .int (nI w_2)), (2, .int (nI w_11))]) hx hb dX5_match_22 rfl hl (by decide) rfl (fun ls hl => ?_)
      refine lv_iconst (v := (nI 0)) hx hb dX5_match_23 (by decide) ?_
      refine lv_istore (lv' := [(4, .int (nI 0)), (3, .int (-9)), (0, .ref y), (1, .int (nI w_2)), (2, .int (nI w_11))]) hx hb dX5_match_24 hl (by decide) rfl (fun ls hl => ?_)
      have lp26 : ∀ (nn : Nat) (i : Nat) (ls : Array Slot), (np - i) < nn → (i ≤ np) → lv_has ls 5 [(0, .ref y), (1, .int (nI w_2)), (2, .int (nI w_11)), (3, .int (enc (mtb sl (fun p => ap kd hg p w_2 w_11) i))), (4, .int (nI i))] → W P l E ({ frames := 3, cells := 0, slots := 0, locals := 73 } : Room) s mt [.ref y, .int (nI w_2), .int (nI w_11)].toArray below meth cd s.heap [] 0 0 (MQ below (vp_Si (fun r => r = sp_match np sl kd hg (nI w_2) (nI w_11))) [.ref y, .int (nI w_2), .int (nI w_11)].toArray s 0 0 (fun _ => False)) (F0 mt 26 ls []) := by
        intro nn
        induction nn with
        | zero => intro i ls hmu; exact absurd hmu (Nat.not_lt_zero _)
        | succ nn ih26 =>
          intro i ls hmu hi hl
          have hmb : ∀ b, mtb sl (fun p => ap kd hg p w_2 w_11) i = some b → b < 2 ^ 31 := fun b hb => by have := (mtb_le hb).1; omega
          refine lv_iload hx hb dX5_match_26 (lv_at hl 4 rfl) ?_
          refine lv_aload_n hx hb dX5_match_28 rfl (lv_at hl 0 rfl) ?_
          refine va_get (D := g.1) (ci := 5) (v := .int (nI np)) (C := RX5) (T := TX5) (N := 23) hx hb hts (fun _ h => (List.mem_cons_of_mem _ (List.mem_append_right _ h))) hown hK.1 hP 0 rfl rfl 5 (by decide) (hts _ (List.mem_of_getElem? (i := 1) rfl)) (fun _ h9 => h9) rfl dX5_match_29 ?_
          refine n_icmp_ge (a := i) (b := np) (tgt := 79) hx hb (by omega) (by omega) dX5_match_32 (by decide) (fun c32 => ?_) (fun c32 => ?_)
          · obtain rfl : np = i := by omega
            refine lv_iload_n hx hb dX5_match_79 rfl (lv_at hl 3 rfl) ?_
            exact zretI hx hb hr hlocks rfl (by rw [sp_match, if_pos (isP_of (by omega) hw_2), if_pos (isP_of (by omega) hw_11), tN_nI (u := w_2) (by omega), tN_nI (u := w_11) (by omega)]) dX5_match_80
          · refine lv_aload_n hx hb dX5_match_35 rfl (lv_at hl 0 rfl) ?_
            refine lv_iload hx hb dX5_match_36 (lv_at hl 4 rfl) ?_
            refine lv_iload_n hx hb dX5_match_38 rfl (lv_at hl 1 rfl) ?_
            refine lv_iload_n hx hb dX5_match_39 rfl (lv_at hl 2 rfl) ?_
            have hPc : PP g (wM g y ya yb yc yd ye yf yg yh yi yj yk yl ft tr lane ml cel np sl kd hg ps rs rn rk rh lg fk gt tkn nr ru rl rm rd) _ := hP
            refine zcallR (va_runV (As := [.int (nI i), .int (nI w_2), .int (nI w_11)]) (rest := []) (b := y) S0 (c_X5_isFit l g y ya yb yc yd ye yf yg yh yi yj yk yl ft tr lane ml cel np sl kd hg ps rs rn rk rh lg fk gt tkn nr ru rl rm rd i w_2 w_11 hnp hsl hkd hhg (by omega) (by omega) (by omega)) (cwV 3 hts gX5_match_X5_isFit rfl rfl rfl (by decide +kernel) ⟨by decide, by decide⟩) (zpreV hK hPc (va_recv hK.1 hPc (ci := 5) (q0 := 0) rfl rfl)) rfl rfl hl.1 rfl (lv_room (Nat.le_of_ble_eq_true rfl)) dX5_match_40 ⟨by decide, by decide⟩) (fun r40 h40 => ?_)
            subst h40
            have f1 := fitb_le sl kd hg i w_2 w_11
            refine n_if_eq (a := (fitb sl kd hg i w_2 w_11)) (tgt := 73) hx hb (by omega) dX5_match_43 (by decide) (fun c43 => ?_) (fun c43 => ?_)
            · refine n_iinc (a := i) (d := 1) (lv' := [(4, .int (nI (i + 1))), (0, .ref y), (1, .int (nI w_2)), (2, .int (nI w_11)), (3, .int (enc (mtb sl (fun p => ap kd hg p w_2 w_11) i)))]) hx hb dX5_match_73 hl (k := 4) rfl (by decide) (by decide) rfl (fun ls hl => ?_)
              refine lv_goto (tgt := 26) hx hb dX5_match_76 (by decide) ?_
              exact ih26 (i + 1)  ls (by omega) (by omega) (lv_sub hl [1, 2, 3, 4, 0] (by rw [mtb_no (f := (fun p => ap kd hg p w_2 w_11)) (Nat.le_trans (mtl_le i) (by have := b01_0.mp c43; omega))]; rfl))
            · refine lv_iload_n hx hb dX5_match_46 rfl (lv_at hl 3 rfl) ?_
              refine lv_bipush (v := (-9)) hx hb dX5_match_47 (by decide) ?_
              refine lv_icmp_eq (tgt := 70) hx hb dX5_match_49 (by decide) (fun c49 => ?_) (fun c49 => ?_)
              · refine lv_iload hx hb dX5_match_70 (lv_at hl 4 rfl) ?_
                refine lv_istore_n (lv' := [(3, .int (nI i)), (0, .ref y), (1, .int (nI w_2)), (2, .int (nI w_11)), (4, .int (nI i))]) hx hb dX5_match_72 rfl hl (by decide) rfl (fun ls hl => ?_)
                refine n_iinc (a := i) (d := 1) (lv' := [(4, .int (nI (i + 1))), (3, .int (nI i)), (0, .ref y), (1, .int (nI w_2)), (2, .int (nI w_11))]) hx hb dX5_match_73 hl (k := 4) rfl (by decide) (by decide) rfl (fun ls hl => ?_)
                refine lv_goto (tgt := 26) hx hb dX5_match_76 (by decide) ?_
                exact ih26 (i + 1)  ls (by omega) (by omega) (lv_sub hl [2, 3, 4, 1, 0] (by rw [mtb_yes (f := (fun p => ap kd hg p w_2 w_11)) (by rw [mtl, (enc_9 hmb).mp c49]; have := b01_n0.mp c43; simp only; omega)]; rfl))
              · obtain ⟨bb, hbb⟩ := enc_some (o := mtb sl (fun p => ap kd hg p w_2 w_11) i) c49
                rw [hbb] at hl
                have hl : lv_has ls 5 [(0, .ref y), (1, .int (nI w_2)), (2, .int (nI w_11)), (3, .int (nI bb)), (4, .int (nI i))] := hl
                have hbl := mtb_le hbb
                refine lv_aload_n hx hb dX5_match_52 rfl (lv_at hl 0 rfl) ?_
                refine lv_iload hx hb dX5_match_53 (lv_at hl 4 rfl) ?_
                refine lv_iload_n hx hb dX5_match_55 rfl (lv_at hl 1 rfl) ?_
                refine lv_iload_n hx hb dX5_match_56 rfl (lv_at hl 2 rfl) ?_
                have hPc : PP g (wM g y ya yb yc yd ye yf yg yh yi yj yk yl ft tr lane ml cel np sl kd hg ps rs rn rk rh lg fk gt tkn nr ru rl rm rd) _ := hP
                refine zcallR (va_runV (As := [.int (nI i), .int (nI w_2), .int (nI w_11)]) (rest := []) (b := y) S0 (c_X5_offOf l g y ya yb yc yd ye yf yg yh yi yj yk yl ft tr lane ml cel np sl kd hg ps rs rn rk rh lg fk gt tkn nr ru rl rm rd i w_2 w_11 hnp hkd hhg (by omega) (by omega) (by omega)) (cwV 3 hts gX5_match_X5_offOf rfl rfl rfl (by decide +kernel) ⟨by decide, by decide⟩) (zpreV hK hPc (va_recv hK.1 hPc (ci := 5) (q0 := 0) rfl rfl)) rfl rfl hl.1 rfl (lv_room (Nat.le_of_ble_eq_true rfl)) dX5_match_57 ⟨by decide, by decide⟩) (fun r57 h57 => ?_)
                subst h57
                have f2 := ap_le kd hhg i w_2 w_11
                refine lv_aload_n hx hb dX5_match_60 rfl (lv_at hl 0 rfl) ?_
                refine lv_iload_n hx hb dX5_match_61 rfl (lv_at hl 3 rfl) ?_
                refine lv_iload_n hx hb dX5_match_62 rfl (lv_at hl 1 rfl) ?_
                refine lv_iload_n hx hb dX5_match_63 rfl (lv_at hl 2 rfl) ?_
                have hPc : PP g (wM g y ya yb yc yd ye yf yg yh yi yj yk yl ft tr lane ml cel np sl kd hg ps rs rn rk rh lg fk gt tkn nr ru rl rm rd) _ := hP
                refine zcallR (va_runV (As := [.int (nI bb), .int (nI w_2), .int (nI w_11)]) (rest := [.int (nI (ap kd hg i w_2 w_11))]) (b := y) S0 (c_X5_offOf l g y ya yb yc yd ye yf yg yh yi yj yk yl ft tr lane ml cel np sl kd hg ps rs rn rk rh lg fk gt tkn nr ru rl rm rd bb w_2 w_11 hnp hkd hhg (by omega) (by omega) (by omega)) (cwV 3 hts gX5_match_X5_offOf rfl rfl rfl (by decide +kernel) ⟨by decide, by decide⟩) (zpreV hK hPc (va_recv hK.1 hPc (ci := 5) (q0 := 0) rfl rfl)) rfl rfl hl.1 rfl (lv_room (Nat.le_of_ble_eq_true rfl)) dX5_match_64 ⟨by decide, by decide⟩) (fun r64 h64 => ?_)
                subst h64
                have f3 := ap_le kd hhg bb w_2 w_11
                refine n_icmp_ge (a := (ap kd hg i w_2 w_11)) (b := (ap kd hg bb w_2 w_11)) (tgt := 73) hx hb (by omega) (by omega) dX5_match_67 (by decide) (fun c67 => ?_) (fun c67 => ?_)
                · refine n_iinc (a := i) (d := 1) (lv' := [(4, .int (nI (i + 1))), (0, .ref y), (1, .int (nI w_2)), (2, .int (nI w_11)), (3, .int (nI bb))]) hx hb dX5_match_73 hl (k := 4) rfl (by decide) (by decide) rfl (fun ls hl => ?_)
                  refine lv_goto (tgt := 26) hx hb dX5_match_76 (by decide) ?_
                  exact ih26 (i + 1)  ls (by omega) (by omega) (lv_sub hl [1, 2, 3, 4, 0] (by rw [mtb_no (f := (fun p => ap kd hg p w_2 w_11)) (by rw [mtl, hbb]; exact c67), hbb]; rfl))
                · refine lv_iload hx hb dX5_match_70 (lv_at hl 4 rfl) ?_
                  refine lv_istore_n (lv' := [(3, .int (nI i)), (0, .ref y), (1, .int (nI w_2)), (2, .int (nI w_11)), (4, .int (nI i))]) hx hb dX5_match_72 rfl hl (by decide) rfl (fun ls hl => ?_)
                  refine n_iinc (a := i) (d := 1) (lv' := [(4, .int (nI (i + 1))), (3, .int (nI i)), (0, .ref y), (1, .int (nI w_2)), (2, .int (nI w_11))]) hx hb dX5_match_73 hl (k := 4) rfl (by decide) (by decide) rfl (fun ls hl => ?_)
                  refine lv_goto (tgt := 26) hx hb dX5_match_76 (by decide) ?_
                  exact ih26 (i + 1)  ls (by omega) (by omega) (lv_sub hl [2, 3, 4, 1, 0] (by rw [mtb_yes (f := (fun p => ap kd hg p w_2 w_11)) (by rw [mtl, hbb]; exact c67)]; rfl))
      exact lp26 (np - 0 + 1) 0  ls (Nat.lt_succ_self _) (by omega) (lv_sub hl [2, 3, 4, 1, 0] rfl)
    · refine lv_if_ne (tgt := 20) hx hb dX5_match_14 (by decide) (fun c14 => ?_) (fun c14 => ?_)
      · exact absurd c14 (by decide)
      refine lv_bipush (v := (-2)) hx hb dX5_match_17 (by decide) ?_
      exact zretI hx hb hr hlocks rfl (by rw [sp_match, if_pos (isP_of (by omega) hw_2), if_neg hn_11]) dX5_match_19
  · refine lv_if_ne (tgt := 10) hx hb dX5_match_5 (by decide) (fun c5 => ?_) (fun c5 => ?_)
    · exact absurd c5 (by decide)
    refine lv_iconst (v := (-1)) hx hb dX5_match_8 (by decide) ?_
    exact zretI hx hb hr hlocks rfl (by rw [sp_match, if_neg hn_2]) dX5_match_9

set_option maxHeartbeats 4000000 in
set_option maxRecDepth 100000 in
theorem c_X5_last (l : Launch) (g : Gx) (y : Nat) (ya : Nat) (yb : Nat) (yc : Nat) (yd : Nat) (ye : Nat) (yf : Nat) (yg : Nat) (yh : Nat) (yi : Nat) (yj : Nat) (yk : Nat) (yl : Nat) (ft : Nat) (tr : Int32) (lane : Nat → Nat) (ml : Nat → Nat) (cel : Nat → Nat → Int32) (np : Nat) (sl : Nat) (kd : Nat → Nat) (hg : Nat → Nat) (ps : Nat) (rs : Int32) (rn : Nat) (rk : Nat → Int32) (rh : Nat → Int32) (lg : Int32) (fk : Int32) (gt : Int32) (tkn : Nat → Int32) (nr : Nat) (ru : Nat → Nat) (rl : Nat → Nat) (rm : Nat → Nat) (rd : Nat → Nat) (p : Int32) (hG : Gd np sl kd hg nr ru rl rm rd lane ml) : Met l yX5_last wsX5_last ({ frames := 3, cells := 0, slots := 0, locals := 73 } : Room) (PcR g [.ref y, .int p] (wM g y ya yb yc yd ye yf yg yh yi yj yk yl ft tr lane ml cel np sl kd hg ps rs rn rk rh lg fk gt tkn nr ru rl rm rd)) (vp_Si (fun r => r = sp_last np sl kd hg p)) 0 0 (fun _ => False) := by
  refine zenterR (cc := cX5_last) (maxL := 3) (ret := (some .int)) (by decide) rfl (Nat.le_of_ble_eq_true rfl) ?_
  intro P E s mt below meth cd ls hx hb hml hown hts hr hlocks hP hK hl
  have hl : lv_has ls 3 [(0, .ref y), (1, .int p)] := hl
  have S0 : CallFix P mt cd cX5_last 3 s [.ref y, .int p].toArray wsX5_last RX5 := ⟨hx, hb, hml, hown, hts⟩
  obtain ⟨hnp, hsl, hkd, hhg, hnr, hru, hrl, hrm, hrd, hla, hmz⟩ := hG
  refine lv_aload_n hx hb dX5_last_0 rfl (lv_at hl 0 rfl) ?_
  refine lv_iload_n hx hb dX5_last_1 rfl (lv_at hl 1 rfl) ?_
  have hPc : PP g (wM g y ya yb yc yd ye yf yg yh yi yj yk yl ft tr lane ml cel np sl kd hg ps rs rn rk rh lg fk gt tkn nr ru rl rm rd) _ := hP
  refine zcallR (va_runV (As := [.int p]) (rest := []) (b := y) S0 (c_X5_isPass l g y ya yb yc yd ye yf yg yh yi yj yk yl ft tr lane ml cel np sl kd hg ps rs rn rk rh lg fk gt tkn nr ru rl rm rd p hnp) (cwV 1 hts gX5_last_X5_isPass rfl rfl rfl (by decide +kernel) ⟨by decide, by decide⟩) (zpreV hK hPc (va_recv hK.1 hPc (ci := 5) (q0 := 0) rfl rfl)) rfl rfl hl.1 rfl (lv_room (Nat.le_of_ble_eq_true rfl)) dX5_last_2 ⟨by decide, by decide⟩) (fun r2 h2 => ?_)
  rcases h2 with ⟨w_2, hw_2, hv_2, rfl⟩ | ⟨hn_2, rfl⟩
  · subst hv_2
    refine lv_if_ne (tgt := 10) hx hb dX5_last_5 (by decide) (fun c5 => ?_) (fun c5 => ?_)
    rotate_left
    · exact absurd c5 (by decide)
    refine lv_bipush (v := (nI 9)) hx hb dX5_last_10 (by decide) ?_
    refine lv_istore_n (lv' := [(2, .int (nI 9)), (0, .ref y), (1, .int (nI w_2))]) hx hb dX5_last_12 rfl hl (by decide) rfl (fun ls hl => ?_)
    have lp13 : ∀ (nn : Nat) (i : Nat) (ls : Array Slot), (i) < nn → (i ≤ 10) → (lgd (fun m => fitb sl kd hg w_2 w_2 m) 10 = lgd (fun m => fitb sl kd hg w_2 w_2 m) i) → lv_has ls 3 [(0, .ref y), (1, .int (nI w_2)), (2, .int (pm i))] → W P l E ({ frames := 3, cells := 0, slots := 0, locals := 73 } : Room) s mt [.ref y, .int (nI w_2)].toArray below meth cd s.heap [] 0 0 (MQ below (vp_Si (fun r => r = sp_last np sl kd hg (nI w_2))) [.ref y, .int (nI w_2)].toArray s 0 0 (fun _ => False)) (F0 mt 13 ls []) := by
      intro nn
      induction nn with
      | zero => intro i ls hmu; exact absurd hmu (Nat.not_lt_zero _)
      | succ nn ih13 =>
        intro i ls hmu hi hv hl
        refine lv_iload_n hx hb dX5_last_13 rfl (lv_at hl 2 rfl) ?_
        refine lv_if_lt (tgt := 35) hx hb dX5_last_14 (by decide) (fun c14 => ?_) (fun c14 => ?_)
        · have hi0 := pm_neg (by omega) c14
          refine lv_bipush (v := (-9)) hx hb dX5_last_35 (by decide) ?_
          exact zretI hx hb hr hlocks rfl (by rw [sp_last, if_pos (isP_of (by omega) hw_2), tN_nI (u := w_2) (by omega)]; rw [hv, hi0]; rfl) dX5_last_37
        · obtain ⟨k, rfl⟩ := pm_pos c14
          have hl : lv_has ls 3 [(0, .ref y), (1, .int (nI w_2)), (2, .int (nI k))] := hl
          refine lv_aload_n hx hb dX5_last_17 rfl (lv_at hl 0 rfl) ?_
          refine lv_iload_n hx hb dX5_last_18 rfl (lv_at hl 1 rfl) ?_
          refine lv_iload_n hx hb dX5_last_19 rfl (lv_at hl 1 rfl) ?_
          refine lv_iload_n hx hb dX5_last_20 rfl (lv_at hl 2 rfl) ?_
          have hPc : PP g (wM g y ya yb yc yd ye yf yg yh yi yj yk yl ft tr lane ml cel np sl kd hg ps rs rn rk rh lg fk gt tkn nr ru rl rm rd) _ := hP
          refine zcallR (va_runV (As := [.int (nI w_2), .int (nI w_2), .int (nI k)]) (rest := []) (b := y) S0 (c_X5_isFit l g y ya yb yc yd ye yf yg yh yi yj yk yl ft tr lane ml cel np sl kd hg ps rs rn rk rh lg fk gt tkn nr ru rl rm rd w_2 w_2 k hnp hsl hkd hhg hw_2 hw_2 (by omega)) (cwV 3 hts gX5_last_X5_isFit rfl rfl rfl (by decide +kernel) ⟨by decide, by decide⟩) (zpreV hK hPc (va_recv hK.1 hPc (ci := 5) (q0 := 0) rfl rfl)) rfl rfl hl.1 rfl (lv_room (Nat.le_of_ble_eq_true rfl)) dX5_last_21 ⟨by decide, by decide⟩) (fun r21 h21 => ?_)
          subst h21
          have f1 := fitb_le sl kd hg w_2 w_2 k
          refine n_if_eq (a := (fitb sl kd hg w_2 w_2 k)) (tgt := 29) hx hb (by omega) dX5_last_24 (by decide) (fun c24 => ?_) (fun c24 => ?_)
          · refine lv_iinc (v := (pm k)) (lv' := [(2, .int (pm k)), (0, .ref y), (1, .int (nI w_2))]) hx hb dX5_last_29 hl (k := 2) rfl (pm_dec k) (by decide) rfl (fun ls hl => ?_)
            refine lv_goto (tgt := 13) hx hb dX5_last_32 (by decide) ?_
            exact ih13 k  ls (by omega) (by omega) (by rw [hv, lgd, if_pos c24]) (lv_sub hl [1, 2, 0] rfl)
          · refine lv_iload_n hx hb dX5_last_27 rfl (lv_at hl 2 rfl) ?_
            exact zretI hx hb hr hlocks rfl (by rw [sp_last, if_pos (isP_of (by omega) hw_2), tN_nI (u := w_2) (by omega)]; rw [hv, lgd, if_neg c24]; rfl) dX5_last_28
    exact lp13 (10 + 1) 10  ls (Nat.lt_succ_self _) (by omega) rfl (lv_sub hl [1, 2, 0] rfl)
  · refine lv_if_ne (tgt := 10) hx hb dX5_last_5 (by decide) (fun c5 => ?_) (fun c5 => ?_)
    · exact absurd c5 (by decide)
    refine lv_iconst (v := (-1)) hx hb dX5_last_8 (by decide) ?_
    exact zretI hx hb hr hlocks rfl (by rw [sp_last, if_neg hn_2]) dX5_last_9

set_option maxHeartbeats 4000000 in
set_option maxRecDepth 100000 in
theorem c_X5_alikeTo (l : Launch) (g : Gx) (y : Nat) (ya : Nat) (yb : Nat) (yc : Nat) (yd : Nat) (ye : Nat) (yf : Nat) (yg : Nat) (yh : Nat) (yi : Nat) (yj : Nat) (yk : Nat) (yl : Nat) (ft : Nat) (tr : Int32) (lane : Nat → Nat) (ml : Nat → Nat) (cel : Nat → Nat → Int32) (np : Nat) (sl : Nat) (kd : Nat → Nat) (hg : Nat → Nat) (ps : Nat) (rs : Int32) (rn : Nat) (rk : Nat → Int32) (rh : Nat → Int32) (lg : Int32) (fk : Int32) (gt : Int32) (tkn : Nat → Int32) (nr : Nat) (ru : Nat → Nat) (rl : Nat → Nat) (rm : Nat → Nat) (rd : Nat → Nat) (p : Nat) (hnp : np ≤ 6) (hsl : sl ≤ 9) (hhg : ∀ j, hg j ≤ 9) (hp : p < np) : Met l yX5_alikeTo wsX5_alikeTo ({ frames := 1, cells := 0, slots := 0, locals := 21 } : Room) (PcR g [.ref y, .int (nI p)] (wM g y ya yb yc yd ye yf yg yh yi yj yk yl ft tr lane ml cel np sl kd hg ps rs rn rk rh lg fk gt tkn nr ru rl rm rd)) (vp_Si (fun r => r = nI (lset np sl hg p))) 0 0 (fun _ => False) := by
  refine zenterR (cc := cX5_alikeTo) (maxL := 6) (ret := (some .int)) (by decide) rfl (Nat.le_of_ble_eq_true rfl) ?_
  intro P E s mt below meth cd ls hx hb hml hown hts hr hlocks hP hK hl
  have hl : lv_has ls 6 [(0, .ref y), (1, .int (nI p))] := hl
  have S0 : CallFix P mt cd cX5_alikeTo 6 s [.ref y, .int (nI p)].toArray wsX5_alikeTo RX5 := ⟨hx, hb, hml, hown, hts⟩
  refine lv_iconst (v := (nI 0)) hx hb dX5_alikeTo_0 (by decide) ?_
  refine lv_istore_n (lv' := [(2, .int (nI 0)), (0, .ref y), (1, .int (nI p))]) hx hb dX5_alikeTo_1 rfl hl (by decide) rfl (fun ls hl => ?_)
  refine lv_iconst (v := (nI 0)) hx hb dX5_alikeTo_2 (by decide) ?_
  refine lv_istore_n (lv' := [(3, .int (nI 0)), (2, .int (nI 0)), (0, .ref y), (1, .int (nI p))]) hx hb dX5_alikeTo_3 rfl hl (by decide) rfl (fun ls hl => ?_)
  have lp4 : ∀ (nn : Nat) (j : Nat) (ls : Array Slot), (np - j) < nn → (j ≤ np) → lv_has ls 6 [(0, .ref y), (1, .int (nI p)), (2, .int (nI (bset (likb sl hg p) j))), (3, .int (nI j))] → W P l E ({ frames := 1, cells := 0, slots := 0, locals := 21 } : Room) s mt [.ref y, .int (nI p)].toArray below meth cd s.heap [] 0 0 (MQ below (vp_Si (fun r => r = nI (lset np sl hg p))) [.ref y, .int (nI p)].toArray s 0 0 (fun _ => False)) (F0 mt 4 ls []) := by
    intro nn
    induction nn with
    | zero => intro j ls hmu; exact absurd hmu (Nat.not_lt_zero _)
    | succ nn ih4 =>
      intro j ls hmu hj hl
      refine lv_iload_n hx hb dX5_alikeTo_4 rfl (lv_at hl 3 rfl) ?_
      refine lv_aload_n hx hb dX5_alikeTo_5 rfl (lv_at hl 0 rfl) ?_
      refine va_get (D := g.1) (ci := 5) (v := .int (nI np)) (C := RX5) (T := TX5) (N := 23) hx hb hts (fun _ h => (List.mem_cons_of_mem _ (List.mem_append_right _ h))) hown hK.1 hP 0 rfl rfl 5 (by decide) (hts _ (List.mem_of_getElem? (i := 1) rfl)) (fun _ h9 => h9) rfl dX5_alikeTo_6 ?_
      refine n_icmp_ge (a := j) (b := np) (tgt := 90) hx hb (by omega) (by omega) dX5_alikeTo_9 (by decide) (fun c9 => ?_) (fun c9 => ?_)
      · obtain rfl : np = j := by omega
        refine lv_iload_n hx hb dX5_alikeTo_90 rfl (lv_at hl 2 rfl) ?_
        exact zretI hx hb hr hlocks rfl rfl dX5_alikeTo_91
      · refine lv_iconst (v := (nI 0)) hx hb dX5_alikeTo_12 (by decide) ?_
        refine lv_istore (lv' := [(4, .int (nI 0)), (0, .ref y), (1, .int (nI p)), (2, .int (nI (bset (likb sl hg p) j))), (3, .int (nI j))]) hx hb dX5_alikeTo_13 hl (by decide) rfl (fun ls hl => ?_)
        refine lv_iconst (v := (nI 0)) hx hb dX5_alikeTo_15 (by decide) ?_
        refine lv_istore (lv' := [(5, .int (nI 0)), (4, .int (nI 0)), (0, .ref y), (1, .int (nI p)), (2, .int (nI (bset (likb sl hg p) j))), (3, .int (nI j))]) hx hb dX5_alikeTo_16 hl (by decide) rfl (fun ls hl => ?_)
        have lp18 : ∀ (nn : Nat) (i : Nat) (ls : Array Slot), (3 - i) < nn → (i ≤ 3) → lv_has ls 6 [(0, .ref y), (1, .int (nI p)), (2, .int (nI (bset (likb sl hg p) j))), (3, .int (nI j)), (4, .int (nI (sumk (alk hg p j) i))), (5, .int (nI i))] → W P l E ({ frames := 1, cells := 0, slots := 0, locals := 21 } : Room) s mt [.ref y, .int (nI p)].toArray below meth cd s.heap [] 0 0 (MQ below (vp_Si (fun r => r = nI (lset np sl hg p))) [.ref y, .int (nI p)].toArray s 0 0 (fun _ => False)) (F0 mt 18 ls []) := by
          intro nn
          induction nn with
          | zero => intro i ls hmu; exact absurd hmu (Nat.not_lt_zero _)
          | succ nn ih18 =>
            intro i ls hmu hi hl
            refine lv_iload hx hb dX5_alikeTo_18 (lv_at hl 5 rfl) ?_
            refine lv_iconst (v := (nI 3)) hx hb dX5_alikeTo_20 (by decide) ?_
            refine n_icmp_ge (a := i) (b := 3) (tgt := 60) hx hb (by omega) (by omega) dX5_alikeTo_21 (by decide) (fun c21 => ?_) (fun c21 => ?_)
            · obtain rfl : 3 = i := by omega
              have hl : lv_has ls 6 [(0, .ref y), (1, .int (nI p)), (2, .int (nI (bset (likb sl hg p) j))), (3, .int (nI j)), (4, .int (nI (al hg p j))), (5, .int (nI 3))] := hl
              have hal := al_le hhg p j
              refine lv_iload_n hx hb dX5_alikeTo_60 rfl (lv_at hl 2 rfl) ?_
              refine lv_iload_n hx hb dX5_alikeTo_61 rfl (lv_at hl 3 rfl) ?_
              refine lv_iload_n hx hb dX5_alikeTo_62 rfl (lv_at hl 1 rfl) ?_
              refine n_icmp_eq (a := j) (b := p) (tgt := 81) hx hb (by omega) (by omega) dX5_alikeTo_63 (by decide) (fun c63 => ?_) (fun c63 => ?_)
              · refine lv_iconst (v := (nI 0)) hx hb dX5_alikeTo_81 (by decide) ?_
                refine ztopI (nI (bt (likb sl hg p j) j)) (by rw [likb, b01_f (fun z => z.1 c63), bt, if_pos rfl]) ?_
                refine n_ior (a := (bset (likb sl hg p) j)) (b := (bt (likb sl hg p j) j)) hx hb dX5_alikeTo_82 ?_
                refine lv_istore_n (lv' := [(2, .int (nI ((bset (likb sl hg p) j) ||| (bt (likb sl hg p j) j)))), (0, .ref y), (1, .int (nI p)), (3, .int (nI j)), (4, .int (nI (al hg p j))), (5, .int (nI 3))]) hx hb dX5_alikeTo_83 rfl hl (by decide) rfl (fun ls hl => ?_)
                refine n_iinc (a := j) (d := 1) (lv' := [(3, .int (nI (j + 1))), (2, .int (nI ((bset (likb sl hg p) j) ||| (bt (likb sl hg p j) j)))), (0, .ref y), (1, .int (nI p)), (4, .int (nI (al hg p j))), (5, .int (nI 3))]) hx hb dX5_alikeTo_84 hl (k := 3) rfl (by decide) (by decide) rfl (fun ls hl => ?_)
                refine lv_goto (tgt := 4) hx hb dX5_alikeTo_87 (by decide) ?_
                exact ih4 (j + 1)  ls (by omega) (by omega) (lv_sub hl [2, 3, 1, 0] rfl)
              · refine lv_iload hx hb dX5_alikeTo_66 (lv_at hl 4 rfl) ?_
                refine lv_aload_n hx hb dX5_alikeTo_68 rfl (lv_at hl 0 rfl) ?_
                refine va_get (D := g.1) (ci := 5) (v := .int (nI sl)) (C := RX5) (T := TX5) (N := 23) hx hb hts (fun _ h => (List.mem_cons_of_mem _ (List.mem_append_right _ h))) hown hK.1 hP 0 rfl rfl 6 (by decide) (hts _ (List.mem_of_getElem? (i := 3) rfl)) (fun _ h9 => h9) rfl dX5_alikeTo_69 ?_
                refine n_icmp_gt (a := (al hg p j)) (b := sl) (tgt := 81) hx hb (by omega) (by omega) dX5_alikeTo_72 (by decide) (fun c72 => ?_) (fun c72 => ?_)
                · refine lv_iconst (v := (nI 0)) hx hb dX5_alikeTo_81 (by decide) ?_
                  refine ztopI (nI (bt (likb sl hg p j) j)) (by rw [likb, b01_f (fun z => absurd z.2 (by omega)), bt, if_pos rfl]) ?_
                  refine n_ior (a := (bset (likb sl hg p) j)) (b := (bt (likb sl hg p j) j)) hx hb dX5_alikeTo_82 ?_
                  refine lv_istore_n (lv' := [(2, .int (nI ((bset (likb sl hg p) j) ||| (bt (likb sl hg p j) j)))), (0, .ref y), (1, .int (nI p)), (3, .int (nI j)), (4, .int (nI (al hg p j))), (5, .int (nI 3))]) hx hb dX5_alikeTo_83 rfl hl (by decide) rfl (fun ls hl => ?_)
                  refine n_iinc (a := j) (d := 1) (lv' := [(3, .int (nI (j + 1))), (2, .int (nI ((bset (likb sl hg p) j) ||| (bt (likb sl hg p j) j)))), (0, .ref y), (1, .int (nI p)), (4, .int (nI (al hg p j))), (5, .int (nI 3))]) hx hb dX5_alikeTo_84 hl (k := 3) rfl (by decide) (by decide) rfl (fun ls hl => ?_)
                  refine lv_goto (tgt := 4) hx hb dX5_alikeTo_87 (by decide) ?_
                  exact ih4 (j + 1)  ls (by omega) (by omega) (lv_sub hl [2, 3, 1, 0] rfl)
                · refine lv_iconst (v := (nI 1)) hx hb dX5_alikeTo_75 (by decide) ?_
                  refine lv_iload_n hx hb dX5_alikeTo_76 rfl (lv_at hl 3 rfl) ?_
                  refine n_ishl1 (n := j) hx hb (by omega) dX5_alikeTo_77 ?_
                  refine ztopI (nI (bt (likb sl hg p j) j)) (by rw [likb, b01_t ⟨c63, c72⟩, bt, if_neg (by decide)]) ?_
                  refine lv_goto (tgt := 82) hx hb dX5_alikeTo_78 (by decide) ?_
                  refine n_ior (a := (bset (likb sl hg p) j)) (b := (bt (likb sl hg p j) j)) hx hb dX5_alikeTo_82 ?_
                  refine lv_istore_n (lv' := [(2, .int (nI ((bset (likb sl hg p) j) ||| (bt (likb sl hg p j) j)))), (0, .ref y), (1, .int (nI p)), (3, .int (nI j)), (4, .int (nI (al hg p j))), (5, .int (nI 3))]) hx hb dX5_alikeTo_83 rfl hl (by decide) rfl (fun ls hl => ?_)
                  refine n_iinc (a := j) (d := 1) (lv' := [(3, .int (nI (j + 1))), (2, .int (nI ((bset (likb sl hg p) j) ||| (bt (likb sl hg p j) j)))), (0, .ref y), (1, .int (nI p)), (4, .int (nI (al hg p j))), (5, .int (nI 3))]) hx hb dX5_alikeTo_84 hl (k := 3) rfl (by decide) (by decide) rfl (fun ls hl => ?_)
                  refine lv_goto (tgt := 4) hx hb dX5_alikeTo_87 (by decide) ?_
                  exact ih4 (j + 1)  ls (by omega) (by omega) (lv_sub hl [2, 3, 1, 0] rfl)
            · refine lv_iload hx hb dX5_alikeTo_24 (lv_at hl 4 rfl) ?_
              refine lv_aload_n hx hb dX5_alikeTo_26 rfl (lv_at hl 0 rfl) ?_
              refine va_get (D := g.1) (ci := 5) (v := .ref ye) (C := RX5) (T := TX5) (N := 23) hx hb hts (fun _ h => (List.mem_cons_of_mem _ (List.mem_append_right _ h))) hown hK.1 hP 0 rfl rfl 8 (by decide) (hts _ (List.mem_of_getElem? (i := 2) rfl)) (fun _ h9 => h9) rfl dX5_alikeTo_27 ?_
              refine lv_iconst (v := (nI 3)) hx hb dX5_alikeTo_30 (by decide) ?_
              refine lv_iload_n hx hb dX5_alikeTo_31 rfl (lv_at hl 1 rfl) ?_
              refine n_imul (a := 3) (b := p) hx hb dX5_alikeTo_32 ?_
              refine lv_iload hx hb dX5_alikeTo_33 (lv_at hl 5 rfl) ?_
              refine n_iadd (a := (3 * p)) (b := i) hx hb dX5_alikeTo_35 ?_
              refine n_iald (i := ((3 * p) + i)) (v := (nI (hg ((3 * p) + i)))) hx hb hK.1 hP 5 0 rfl rfl (by omega) (by decide) rfl dX5_alikeTo_36 ?_
              have f1 := hhg ((3 * p) + i)
              refine lv_aload_n hx hb dX5_alikeTo_37 rfl (lv_at hl 0 rfl) ?_
              refine va_get (D := g.1) (ci := 5) (v := .ref ye) (C := RX5) (T := TX5) (N := 23) hx hb hts (fun _ h => (List.mem_cons_of_mem _ (List.mem_append_right _ h))) hown hK.1 hP 0 rfl rfl 8 (by decide) (hts _ (List.mem_of_getElem? (i := 2) rfl)) (fun _ h9 => h9) rfl dX5_alikeTo_38 ?_
              refine lv_iconst (v := (nI 3)) hx hb dX5_alikeTo_41 (by decide) ?_
              refine lv_iload_n hx hb dX5_alikeTo_42 rfl (lv_at hl 3 rfl) ?_
              refine n_imul (a := 3) (b := j) hx hb dX5_alikeTo_43 ?_
              refine lv_iload hx hb dX5_alikeTo_44 (lv_at hl 5 rfl) ?_
              refine n_iadd (a := (3 * j)) (b := i) hx hb dX5_alikeTo_46 ?_
              refine n_iald (i := ((3 * j) + i)) (v := (nI (hg ((3 * j) + i)))) hx hb hK.1 hP 5 0 rfl rfl (by omega) (by decide) rfl dX5_alikeTo_47 ?_
              have f2 := hhg ((3 * j) + i)
              refine zcallR (va_runS (As := [.int (nI (hg ((3 * p) + i))), .int (nI (hg ((3 * j) + i)))]) (rest := [.int (nI (sumk (alk hg p j) i))]) S0 (c_X5_apart l g (hg ((3 * p) + i)) (hg ((3 * j) + i)) (by omega) (by omega)) (va_cwS 2 hts gX5_alikeTo_X5_apart rfl rfl rfl (by decide +kernel) ⟨by decide, by decide⟩) (zpreS hK (P_nil _)) rfl rfl hl.1 rfl (lv_room (Nat.le_of_ble_eq_true rfl)) dX5_alikeTo_48 ⟨by decide, by decide⟩) (fun r48 h48 => ?_)
              subst h48
              refine ztopI (nI (alk hg p j i)) (rfl) ?_
              refine n_iadd (a := (sumk (alk hg p j) i)) (b := (alk hg p j i)) hx hb dX5_alikeTo_51 ?_
              refine lv_istore (lv' := [(4, .int (nI ((sumk (alk hg p j) i) + (alk hg p j i)))), (0, .ref y), (1, .int (nI p)), (2, .int (nI (bset (likb sl hg p) j))), (3, .int (nI j)), (5, .int (nI i))]) hx hb dX5_alikeTo_52 hl (by decide) rfl (fun ls hl => ?_)
              refine n_iinc (a := i) (d := 1) (lv' := [(5, .int (nI (i + 1))), (4, .int (nI ((sumk (alk hg p j) i) + (alk hg p j i)))), (0, .ref y), (1, .int (nI p)), (2, .int (nI (bset (likb sl hg p) j))), (3, .int (nI j))]) hx hb dX5_alikeTo_54 hl (k := 5) rfl (by decide) (by decide) rfl (fun ls hl => ?_)
              refine lv_goto (tgt := 18) hx hb dX5_alikeTo_57 (by decide) ?_
              exact ih18 (i + 1)  ls (by omega) (by omega) (lv_sub hl [2, 3, 4, 5, 1, 0] rfl)
        exact lp18 (3 - 0 + 1) 0  ls (Nat.lt_succ_self _) (by omega) (lv_sub hl [2, 3, 4, 5, 1, 0] rfl)
  exact lp4 (np - 0 + 1) 0  ls (Nat.lt_succ_self _) (by omega) (lv_sub hl [2, 3, 1, 0] rfl)

set_option maxHeartbeats 4000000 in
set_option maxRecDepth 100000 in
theorem c_X5_alike (l : Launch) (g : Gx) (y : Nat) (ya : Nat) (yb : Nat) (yc : Nat) (yd : Nat) (ye : Nat) (yf : Nat) (yg : Nat) (yh : Nat) (yi : Nat) (yj : Nat) (yk : Nat) (yl : Nat) (ft : Nat) (tr : Int32) (lane : Nat → Nat) (ml : Nat → Nat) (cel : Nat → Nat → Int32) (np : Nat) (sl : Nat) (kd : Nat → Nat) (hg : Nat → Nat) (ps : Nat) (rs : Int32) (rn : Nat) (rk : Nat → Int32) (rh : Nat → Int32) (lg : Int32) (fk : Int32) (gt : Int32) (tkn : Nat → Int32) (nr : Nat) (ru : Nat → Nat) (rl : Nat → Nat) (rm : Nat → Nat) (rd : Nat → Nat) (p : Int32) (hG : Gd np sl kd hg nr ru rl rm rd lane ml) : Met l yX5_alike wsX5_alike ({ frames := 2, cells := 0, slots := 0, locals := 46 } : Room) (PcR g [.ref y, .int p] (wM g y ya yb yc yd ye yf yg yh yi yj yk yl ft tr lane ml cel np sl kd hg ps rs rn rk rh lg fk gt tkn nr ru rl rm rd)) (vp_Si (fun r => r = sp_alike np sl hg p)) 0 0 (fun _ => False) := by
  refine zenterR (cc := cX5_alike) (maxL := 2) (ret := (some .int)) (by decide) rfl (Nat.le_of_ble_eq_true rfl) ?_
  intro P E s mt below meth cd ls hx hb hml hown hts hr hlocks hP hK hl
  have hl : lv_has ls 2 [(0, .ref y), (1, .int p)] := hl
  have S0 : CallFix P mt cd cX5_alike 2 s [.ref y, .int p].toArray wsX5_alike RX5 := ⟨hx, hb, hml, hown, hts⟩
  obtain ⟨hnp, hsl, hkd, hhg, hnr, hru, hrl, hrm, hrd, hla, hmz⟩ := hG
  refine lv_aload_n hx hb dX5_alike_0 rfl (lv_at hl 0 rfl) ?_
  refine lv_iload_n hx hb dX5_alike_1 rfl (lv_at hl 1 rfl) ?_
  have hPc : PP g (wM g y ya yb yc yd ye yf yg yh yi yj yk yl ft tr lane ml cel np sl kd hg ps rs rn rk rh lg fk gt tkn nr ru rl rm rd) _ := hP
  refine zcallR (va_runV (As := [.int p]) (rest := []) (b := y) S0 (c_X5_isPass l g y ya yb yc yd ye yf yg yh yi yj yk yl ft tr lane ml cel np sl kd hg ps rs rn rk rh lg fk gt tkn nr ru rl rm rd p hnp) (cwV 1 hts gX5_alike_X5_isPass rfl rfl rfl (by decide +kernel) ⟨by decide, by decide⟩) (zpreV hK hPc (va_recv hK.1 hPc (ci := 5) (q0 := 0) rfl rfl)) rfl rfl hl.1 rfl (lv_room (Nat.le_of_ble_eq_true rfl)) dX5_alike_2 ⟨by decide, by decide⟩) (fun r2 h2 => ?_)
  rcases h2 with ⟨w_2, hw_2, hv_2, rfl⟩ | ⟨hn_2, rfl⟩
  · subst hv_2
    refine lv_if_eq (tgt := 16) hx hb dX5_alike_5 (by decide) (fun c5 => ?_) (fun c5 => ?_)
    · exact absurd c5 (by decide)
    refine lv_aload_n hx hb dX5_alike_8 rfl (lv_at hl 0 rfl) ?_
    refine lv_iload_n hx hb dX5_alike_9 rfl (lv_at hl 1 rfl) ?_
    have hPc : PP g (wM g y ya yb yc yd ye yf yg yh yi yj yk yl ft tr lane ml cel np sl kd hg ps rs rn rk rh lg fk gt tkn nr ru rl rm rd) _ := hP
    refine zcallR (va_runV (As := [.int (nI w_2)]) (rest := []) (b := y) S0 (c_X5_alikeTo l g y ya yb yc yd ye yf yg yh yi yj yk yl ft tr lane ml cel np sl kd hg ps rs rn rk rh lg fk gt tkn nr ru rl rm rd w_2 hnp hsl hhg (by omega)) (cwV 1 hts gX5_alike_X5_alikeTo rfl rfl rfl (by decide +kernel) ⟨by decide, by decide⟩) (zpreV hK hPc (va_recv hK.1 hPc (ci := 5) (q0 := 0) rfl rfl)) rfl rfl hl.1 rfl (lv_room (Nat.le_of_ble_eq_true rfl)) dX5_alike_10 ⟨by decide, by decide⟩) (fun r10 h10 => ?_)
    subst h10
    have f1 := lset_lt np sl hg w_2
    have f2 := pow_le64 hnp
    refine lv_goto (tgt := 17) hx hb dX5_alike_13 (by decide) ?_
    exact zretI hx hb hr hlocks rfl (by rw [sp_alike, if_pos (isP_of (by omega) hw_2), tN_nI (u := w_2) (by omega)]) dX5_alike_17
  · refine lv_if_eq (tgt := 16) hx hb dX5_alike_5 (by decide) (fun c5 => ?_) (fun c5 => ?_)
    rotate_left
    · exact absurd (by decide) c5
    refine lv_iconst (v := (-1)) hx hb dX5_alike_16 (by decide) ?_
    exact zretI hx hb hr hlocks rfl (by rw [sp_alike, if_neg hn_2]) dX5_alike_17

set_option maxHeartbeats 4000000 in
set_option maxRecDepth 100000 in
theorem c_X5_size (l : Launch) (g : Gx) (b : Nat) (hb2 : b < 2 ^ 20) : Met l yX5_size wsX5_size ({ frames := 0, cells := 0, slots := 0, locals := 0 } : Room) (PcR g [.int (nI b)] (([] : va_W))) (vp_Si (fun r => r = nI (pc b))) 0 0 (fun _ => False) := by
  refine zenterR (cc := cX5_size) (maxL := 3) (ret := (some .int)) (by decide) rfl (Nat.le_of_ble_eq_true rfl) ?_
  intro P E s mt below meth cd ls hx hb hml hown hts hr hlocks hP hK hl
  have hl : lv_has ls 3 [(0, .int (nI b))] := hl
  have S0 : CallFix P mt cd cX5_size 3 s [.int (nI b)].toArray wsX5_size RX5 := ⟨hx, hb, hml, hown, hts⟩
  refine lv_iconst (v := (nI 0)) hx hb dX5_size_0 (by decide) ?_
  refine lv_istore_n (lv' := [(1, .int (nI 0)), (0, .int (nI b))]) hx hb dX5_size_1 rfl hl (by decide) rfl (fun ls hl => ?_)
  refine lv_iload_n hx hb dX5_size_2 rfl (lv_at hl 1 rfl) ?_
  refine lv_istore_n (lv' := [(2, .int (nI b)), (1, .int (nI 0)), (0, .int (nI b))]) hx hb dX5_size_3 rfl hl (by decide) rfl (fun ls hl => ?_)
  have lp4 : ∀ (nn : Nat) (z : Nat) (t : Nat) (ls : Array Slot), (z) < nn → (z < 2 ^ 20) → (t + pc z = pc b) → lv_has ls 3 [(0, .int (nI b)), (1, .int (nI t)), (2, .int (nI z))] → W P l E ({ frames := 0, cells := 0, slots := 0, locals := 0 } : Room) s mt [.int (nI b)].toArray below meth cd s.heap [] 0 0 (MQ below (vp_Si (fun r => r = nI (pc b))) [.int (nI b)].toArray s 0 0 (fun _ => False)) (F0 mt 4 ls []) := by
    intro nn
    induction nn with
    | zero => intro z t ls hmu; exact absurd hmu (Nat.not_lt_zero _)
    | succ nn ih4 =>
      intro z t ls hmu hz hv hl
      refine lv_iload_n hx hb dX5_size_4 rfl (lv_at hl 2 rfl) ?_
      refine n_if_le (a := z) (tgt := 21) hx hb (by omega) dX5_size_5 (by decide) (fun c5 => ?_) (fun c5 => ?_)
      · obtain rfl : 0 = z := c5.symm
        refine lv_iload_n hx hb dX5_size_21 rfl (lv_at hl 1 rfl) ?_
        exact zretI hx hb hr hlocks rfl (by rw [← hv]; rfl) dX5_size_22
      · refine lv_iload_n hx hb dX5_size_8 rfl (lv_at hl 1 rfl) ?_
        refine lv_iload_n hx hb dX5_size_9 rfl (lv_at hl 2 rfl) ?_
        refine lv_iconst (v := (nI 1)) hx hb dX5_size_10 (by decide) ?_
        refine n_iand (a := z) (b := 1) hx hb dX5_size_11 ?_
        refine n_iadd (a := t) (b := (z &&& 1)) hx hb dX5_size_12 ?_
        refine lv_istore_n (lv' := [(1, .int (nI (t + (z &&& 1)))), (0, .int (nI b)), (2, .int (nI z))]) hx hb dX5_size_13 rfl hl (by decide) rfl (fun ls hl => ?_)
        refine lv_iload_n hx hb dX5_size_14 rfl (lv_at hl 2 rfl) ?_
        refine lv_iconst (v := (nI 1)) hx hb dX5_size_15 (by decide) ?_
        refine lv_ishr hx hb dX5_size_16 ?_
        refine ztopI (nI (z / 2 ^ 1)) (pk_shrN (by omega) (nI 1 &&& 31) 1 (by decide)) ?_
        refine lv_istore_n (lv' := [(2, .int (nI (z / 2 ^ 1))), (1, .int (nI (t + (z &&& 1)))), (0, .int (nI b))]) hx hb dX5_size_17 rfl hl (by decide) rfl (fun ls hl => ?_)
        refine lv_goto (tgt := 4) hx hb dX5_size_18 (by decide) ?_
        exact ih4 (z / 2 ^ 1) (t + (z &&& 1))  ls (by omega) (by omega) (by have := pc_half (n := z) (by omega); omega) (lv_sub hl [2, 1, 0] rfl)
  exact lp4 (b + 1) b 0  ls (Nat.lt_succ_self _) (by omega) (Nat.zero_add _) (lv_sub hl [2, 1, 0] rfl)

set_option maxHeartbeats 4000000 in
set_option maxRecDepth 100000 in
theorem c_X5_areUnlike (l : Launch) (g : Gx) (y : Nat) (ya : Nat) (yb : Nat) (yc : Nat) (yd : Nat) (ye : Nat) (yf : Nat) (yg : Nat) (yh : Nat) (yi : Nat) (yj : Nat) (yk : Nat) (yl : Nat) (ft : Nat) (tr : Int32) (lane : Nat → Nat) (ml : Nat → Nat) (cel : Nat → Nat → Int32) (np : Nat) (sl : Nat) (kd : Nat → Nat) (hg : Nat → Nat) (ps : Nat) (rs : Int32) (rn : Nat) (rk : Nat → Int32) (rh : Nat → Int32) (lg : Int32) (fk : Int32) (gt : Int32) (tkn : Nat → Int32) (nr : Nat) (ru : Nat → Nat) (rl : Nat → Nat) (rm : Nat → Nat) (rd : Nat → Nat) (b : Nat) (hnp : np ≤ 6) (hsl : sl ≤ 9) (hhg : ∀ j, hg j ≤ 9) (hb6 : b < 64) : Met l yX5_areUnlike wsX5_areUnlike ({ frames := 2, cells := 0, slots := 0, locals := 46 } : Room) (PcR g [.ref y, .int (nI b)] (wM g y ya yb yc yd ye yf yg yh yi yj yk yl ft tr lane ml cel np sl kd hg ps rs rn rk rh lg fk gt tkn nr ru rl rm rd)) (vp_Si (fun r => r = nI (nl b (lset np sl hg) np))) 0 0 (fun _ => False) := by
  refine zenterR (cc := cX5_areUnlike) (maxL := 3) (ret := (some .boolean)) (by decide) rfl (Nat.le_of_ble_eq_true rfl) ?_
  intro P E s mt below meth cd ls hx hb hml hown hts hr hlocks hP hK hl
  have hl : lv_has ls 3 [(0, .ref y), (1, .int (nI b))] := hl
  have S0 : CallFix P mt cd cX5_areUnlike 3 s [.ref y, .int (nI b)].toArray wsX5_areUnlike RX5 := ⟨hx, hb, hml, hown, hts⟩
  refine lv_iconst (v := (nI 0)) hx hb dX5_areUnlike_0 (by decide) ?_
  refine lv_istore_n (lv' := [(2, .int (nI 0)), (0, .ref y), (1, .int (nI b))]) hx hb dX5_areUnlike_1 rfl hl (by decide) rfl (fun ls hl => ?_)
  have lp2 : ∀ (nn : Nat) (i : Nat) (ls : Array Slot), (np - i) < nn → (i ≤ np) → (nl b (lset np sl hg) i = 1) → lv_has ls 3 [(0, .ref y), (1, .int (nI b)), (2, .int (nI i))] → W P l E ({ frames := 2, cells := 0, slots := 0, locals := 46 } : Room) s mt [.ref y, .int (nI b)].toArray below meth cd s.heap [] 0 0 (MQ below (vp_Si (fun r => r = nI (nl b (lset np sl hg) np))) [.ref y, .int (nI b)].toArray s 0 0 (fun _ => False)) (F0 mt 2 ls []) := by
    intro nn
    induction nn with
    | zero => intro i ls hmu; exact absurd hmu (Nat.not_lt_zero _)
    | succ nn ih2 =>
      intro i ls hmu hi hv hl
      refine lv_iload_n hx hb dX5_areUnlike_2 rfl (lv_at hl 2 rfl) ?_
      refine lv_aload_n hx hb dX5_areUnlike_3 rfl (lv_at hl 0 rfl) ?_
      refine va_get (D := g.1) (ci := 5) (v := .int (nI np)) (C := RX5) (T := TX5) (N := 23) hx hb hts (fun _ h => (List.mem_cons_of_mem _ (List.mem_append_right _ h))) hown hK.1 hP 0 rfl rfl 5 (by decide) (hts _ (List.mem_of_getElem? (i := 1) rfl)) (fun _ h9 => h9) rfl dX5_areUnlike_4 ?_
      refine n_icmp_ge (a := i) (b := np) (tgt := 37) hx hb (by omega) (by omega) dX5_areUnlike_7 (by decide) (fun c7 => ?_) (fun c7 => ?_)
      · obtain rfl : np = i := by omega
        refine lv_iconst (v := (nI 1)) hx hb dX5_areUnlike_37 (by decide) ?_
        exact zretI hx hb hr hlocks rfl (by rw [hv]) dX5_areUnlike_38
      · refine lv_iload_n hx hb dX5_areUnlike_10 rfl (lv_at hl 1 rfl) ?_
        refine lv_iload_n hx hb dX5_areUnlike_11 rfl (lv_at hl 2 rfl) ?_
        refine lv_ishr hx hb dX5_areUnlike_12 ?_
        refine ztopI (nI (b / 2 ^ i)) (pk_shrN (by omega) (nI i &&& 31) i (nI_sh i (by omega))) ?_
        refine lv_iconst (v := (nI 1)) hx hb dX5_areUnlike_13 (by decide) ?_
        refine n_iand (a := (b / 2 ^ i)) (b := 1) hx hb dX5_areUnlike_14 ?_
        refine lv_iconst (v := (nI 1)) hx hb dX5_areUnlike_15 (by decide) ?_
        refine n_icmp_ne (a := ((b / 2 ^ i) &&& 1)) (b := 1) (tgt := 31) hx hb (Nat.lt_of_le_of_lt Nat.and_le_right (by decide)) (by omega) dX5_areUnlike_16 (by decide) (fun c16 => ?_) (fun c16 => ?_)
        · refine n_iinc (a := i) (d := 1) (lv' := [(2, .int (nI (i + 1))), (0, .ref y), (1, .int (nI b))]) hx hb dX5_areUnlike_31 hl (k := 2) rfl (by decide) (by decide) rfl (fun ls hl => ?_)
          refine lv_goto (tgt := 2) hx hb dX5_areUnlike_34 (by decide) ?_
          exact ih2 (i + 1)  ls (by omega) (by omega) (nl_go hv (fun z => c16 (bit_shr.mpr z.1))) (lv_sub hl [1, 2, 0] rfl)
        · refine lv_aload_n hx hb dX5_areUnlike_19 rfl (lv_at hl 0 rfl) ?_
          refine lv_iload_n hx hb dX5_areUnlike_20 rfl (lv_at hl 2 rfl) ?_
          have hPc : PP g (wM g y ya yb yc yd ye yf yg yh yi yj yk yl ft tr lane ml cel np sl kd hg ps rs rn rk rh lg fk gt tkn nr ru rl rm rd) _ := hP
          refine zcallR (va_runV (As := [.int (nI i)]) (rest := []) (b := y) S0 (c_X5_alikeTo l g y ya yb yc yd ye yf yg yh yi yj yk yl ft tr lane ml cel np sl kd hg ps rs rn rk rh lg fk gt tkn nr ru rl rm rd i hnp hsl hhg (by omega)) (cwV 1 hts gX5_areUnlike_X5_alikeTo rfl rfl rfl (by decide +kernel) ⟨by decide, by decide⟩) (zpreV hK hPc (va_recv hK.1 hPc (ci := 5) (q0 := 0) rfl rfl)) rfl rfl hl.1 rfl (lv_room (Nat.le_of_ble_eq_true rfl)) dX5_areUnlike_21 ⟨by decide, by decide⟩) (fun r21 h21 => ?_)
          subst h21
          have f1 := lset_lt np sl hg i
          have f2 := pow_le64 hnp
          refine lv_iload_n hx hb dX5_areUnlike_24 rfl (lv_at hl 1 rfl) ?_
          refine n_iand (a := (lset np sl hg i)) (b := b) hx hb dX5_areUnlike_25 ?_
          refine n_if_eq (a := ((lset np sl hg i) &&& b)) (tgt := 31) hx hb (Nat.lt_trans (and_lt hb6) (by decide)) dX5_areUnlike_26 (by decide) (fun c26 => ?_) (fun c26 => ?_)
          · refine n_iinc (a := i) (d := 1) (lv' := [(2, .int (nI (i + 1))), (0, .ref y), (1, .int (nI b))]) hx hb dX5_areUnlike_31 hl (k := 2) rfl (by decide) (by decide) rfl (fun ls hl => ?_)
            refine lv_goto (tgt := 2) hx hb dX5_areUnlike_34 (by decide) ?_
            exact ih2 (i + 1)  ls (by omega) (by omega) (nl_go hv (fun z => z.2 c26)) (lv_sub hl [1, 2, 0] rfl)
          · refine lv_iconst (v := (nI 0)) hx hb dX5_areUnlike_29 (by decide) ?_
            exact zretI hx hb hr hlocks rfl (by rw [nl_stay (nl_bad (bit_shr.mp c16) c26) np (by omega)]) dX5_areUnlike_30
  exact lp2 (np - 0 + 1) 0  ls (Nat.lt_succ_self _) (by omega) rfl (lv_sub hl [1, 2, 0] rfl)

set_option maxHeartbeats 4000000 in
set_option maxRecDepth 100000 in
theorem c_X5_most (l : Launch) (g : Gx) (y : Nat) (ya : Nat) (yb : Nat) (yc : Nat) (yd : Nat) (ye : Nat) (yf : Nat) (yg : Nat) (yh : Nat) (yi : Nat) (yj : Nat) (yk : Nat) (yl : Nat) (ft : Nat) (tr : Int32) (lane : Nat → Nat) (ml : Nat → Nat) (cel : Nat → Nat → Int32) (np : Nat) (sl : Nat) (kd : Nat → Nat) (hg : Nat → Nat) (ps : Nat) (rs : Int32) (rn : Nat) (rk : Nat → Int32) (rh : Nat → Int32) (lg : Int32) (fk : Int32) (gt : Int32) (tkn : Nat → Int32) (nr : Nat) (ru : Nat → Nat) (rl : Nat → Nat) (rm : Nat → Nat) (rd : Nat → Nat) (hG : Gd np sl kd hg nr ru rl rm rd lane ml) : Met l yX5_most wsX5_most ({ frames := 3, cells := 0, slots := 0, locals := 68 } : Room) (PcR g [.ref y] (wM g y ya yb yc yd ye yf yg yh yi yj yk yl ft tr lane ml cel np sl kd hg ps rs rn rk rh lg fk gt tkn nr ru rl rm rd)) (vp_Si (fun r => r = sp_most np sl hg)) 0 0 (fun _ => False) := by
  refine zenterR (cc := cX5_most) (maxL := 3) (ret := (some .int)) (by decide) rfl (Nat.le_of_ble_eq_true rfl) ?_
  intro P E s mt below meth cd ls hx hb hml hown hts hr hlocks hP hK hl
  have hl : lv_has ls 3 [(0, .ref y)] := hl
  have S0 : CallFix P mt cd cX5_most 3 s [.ref y].toArray wsX5_most RX5 := ⟨hx, hb, hml, hown, hts⟩
  obtain ⟨hnp, hsl, hkd, hhg, hnr, hru, hrl, hrm, hrd, hla, hmz⟩ := hG
  have h64 := pow_le64 hnp
  have h65 := Nat.two_pow_pos np
  refine lv_aload_n hx hb dX5_most_0 rfl (lv_at hl 0 rfl) ?_
  refine va_get (D := g.1) (ci := 5) (v := .int (nI np)) (C := RX5) (T := TX5) (N := 23) hx hb hts (fun _ h => (List.mem_cons_of_mem _ (List.mem_append_right _ h))) hown hK.1 hP 0 rfl rfl 5 (by decide) (hts _ (List.mem_of_getElem? (i := 1) rfl)) (fun _ h9 => h9) rfl dX5_most_1 ?_
  refine n_if_ne (a := np) (tgt := 10) hx hb (by omega) dX5_most_4 (by decide) (fun c4 => ?_) (fun c4 => ?_)
  · refine lv_iconst (v := (nI 0)) hx hb dX5_most_10 (by decide) ?_
    refine lv_istore_n (lv' := [(1, .int (nI 0)), (0, .ref y)]) hx hb dX5_most_11 rfl hl (by decide) rfl (fun ls hl => ?_)
    refine lv_iconst (v := (nI 1)) hx hb dX5_most_12 (by decide) ?_
    refine lv_istore_n (lv' := [(2, .int (nI 1)), (1, .int (nI 0)), (0, .ref y)]) hx hb dX5_most_13 rfl hl (by decide) rfl (fun ls hl => ?_)
    have lp14 : ∀ (nn : Nat) (j : Nat) (ls : Array Slot), (2 ^ np - j) < nn → (j ≤ 2 ^ np) → lv_has ls 3 [(0, .ref y), (1, .int (nI (ms (lset np sl hg) np j))), (2, .int (nI j))] → W P l E ({ frames := 3, cells := 0, slots := 0, locals := 68 } : Room) s mt [.ref y].toArray below meth cd s.heap [] 0 0 (MQ below (vp_Si (fun r => r = sp_most np sl hg)) [.ref y].toArray s 0 0 (fun _ => False)) (F0 mt 14 ls []) := by
      intro nn
      induction nn with
      | zero => intro j ls hmu; exact absurd hmu (Nat.not_lt_zero _)
      | succ nn ih14 =>
        intro j ls hmu hj hl
        have hms := ms_lt (lset np sl hg) np hj h65
        have hq1 := pc_32 j
        have hq2 := pc_32 (ms (lset np sl hg) np j)
        refine lv_iload_n hx hb dX5_most_14 rfl (lv_at hl 2 rfl) ?_
        refine lv_iconst (v := (nI 1)) hx hb dX5_most_15 (by decide) ?_
        refine lv_aload_n hx hb dX5_most_16 rfl (lv_at hl 0 rfl) ?_
        refine va_get (D := g.1) (ci := 5) (v := .int (nI np)) (C := RX5) (T := TX5) (N := 23) hx hb hts (fun _ h => (List.mem_cons_of_mem _ (List.mem_append_right _ h))) hown hK.1 hP 0 rfl rfl 5 (by decide) (hts _ (List.mem_of_getElem? (i := 1) rfl)) (fun _ h9 => h9) rfl dX5_most_17 ?_
        refine n_ishl1 (n := np) hx hb (by omega) dX5_most_20 ?_
        refine n_icmp_ge (a := j) (b := (2 ^ np)) (tgt := 51) hx hb (by omega) (by omega) dX5_most_21 (by decide) (fun c21 => ?_) (fun c21 => ?_)
        · obtain rfl : 2 ^ np = j := by omega
          refine lv_iload_n hx hb dX5_most_51 rfl (lv_at hl 1 rfl) ?_
          exact zretI hx hb hr hlocks rfl (by rw [sp_most, if_pos (by omega)]) dX5_most_52
        · refine lv_iload_n hx hb dX5_most_24 rfl (lv_at hl 2 rfl) ?_
          refine zcallR (va_runS (As := [.int (nI j)]) (rest := []) S0 (c_X5_size l g j (by omega)) (va_cwS 1 hts gX5_most_X5_size rfl rfl rfl (by decide +kernel) ⟨by decide, by decide⟩) (zpreS hK (P_nil _)) rfl rfl hl.1 rfl (lv_room (Nat.le_of_ble_eq_true rfl)) dX5_most_25 ⟨by decide, by decide⟩) (fun r25 h25 => ?_)
          subst h25
          have f1 := pc_32 j
          refine lv_iload_n hx hb dX5_most_28 rfl (lv_at hl 1 rfl) ?_
          refine zcallR (va_runS (As := [.int (nI (ms (lset np sl hg) np j))]) (rest := [.int (nI (pc j))]) S0 (c_X5_size l g (ms (lset np sl hg) np j) (by omega)) (va_cwS 1 hts gX5_most_X5_size rfl rfl rfl (by decide +kernel) ⟨by decide, by decide⟩) (zpreS hK (P_nil _)) rfl rfl hl.1 rfl (lv_room (Nat.le_of_ble_eq_true rfl)) dX5_most_29 ⟨by decide, by decide⟩) (fun r29 h29 => ?_)
          subst h29
          have f2 := pc_32 (ms (lset np sl hg) np j)
          refine n_icmp_le (a := (pc j)) (b := (pc (ms (lset np sl hg) np j))) (tgt := 45) hx hb (by omega) (by omega) dX5_most_32 (by decide) (fun c32 => ?_) (fun c32 => ?_)
          · refine n_iinc (a := j) (d := 1) (lv' := [(2, .int (nI (j + 1))), (0, .ref y), (1, .int (nI (ms (lset np sl hg) np j)))]) hx hb dX5_most_45 hl (k := 2) rfl (by decide) (by decide) rfl (fun ls hl => ?_)
            refine lv_goto (tgt := 14) hx hb dX5_most_48 (by decide) ?_
            exact ih14 (j + 1)  ls (by omega) (by omega) (lv_sub hl [1, 2, 0] (by rw [ms, if_neg (fun z => absurd z.1 (by omega))]; rfl))
          · refine lv_aload_n hx hb dX5_most_35 rfl (lv_at hl 0 rfl) ?_
            refine lv_iload_n hx hb dX5_most_36 rfl (lv_at hl 2 rfl) ?_
            have hPc : PP g (wM g y ya yb yc yd ye yf yg yh yi yj yk yl ft tr lane ml cel np sl kd hg ps rs rn rk rh lg fk gt tkn nr ru rl rm rd) _ := hP
            refine zcallR (va_runV (As := [.int (nI j)]) (rest := []) (b := y) S0 (c_X5_areUnlike l g y ya yb yc yd ye yf yg yh yi yj yk yl ft tr lane ml cel np sl kd hg ps rs rn rk rh lg fk gt tkn nr ru rl rm rd j hnp hsl hhg (by omega)) (cwV 1 hts gX5_most_X5_areUnlike rfl rfl rfl (by decide +kernel) ⟨by decide, by decide⟩) (zpreV hK hPc (va_recv hK.1 hPc (ci := 5) (q0 := 0) rfl rfl)) rfl rfl hl.1 rfl (lv_room (Nat.le_of_ble_eq_true rfl)) dX5_most_37 ⟨by decide, by decide⟩) (fun r37 h37 => ?_)
            subst h37
            have f3 := nl_le j (lset np sl hg) np
            refine n_if_eq (a := (nl j (lset np sl hg) np)) (tgt := 45) hx hb (by omega) dX5_most_40 (by decide) (fun c40 => ?_) (fun c40 => ?_)
            · refine n_iinc (a := j) (d := 1) (lv' := [(2, .int (nI (j + 1))), (0, .ref y), (1, .int (nI (ms (lset np sl hg) np j)))]) hx hb dX5_most_45 hl (k := 2) rfl (by decide) (by decide) rfl (fun ls hl => ?_)
              refine lv_goto (tgt := 14) hx hb dX5_most_48 (by decide) ?_
              exact ih14 (j + 1)  ls (by omega) (by omega) (lv_sub hl [1, 2, 0] (by rw [ms, if_neg (fun z => z.2 c40)]; rfl))
            · refine lv_iload_n hx hb dX5_most_43 rfl (lv_at hl 2 rfl) ?_
              refine lv_istore_n (lv' := [(1, .int (nI j)), (0, .ref y), (2, .int (nI j))]) hx hb dX5_most_44 rfl hl (by decide) rfl (fun ls hl => ?_)
              refine n_iinc (a := j) (d := 1) (lv' := [(2, .int (nI (j + 1))), (1, .int (nI j)), (0, .ref y)]) hx hb dX5_most_45 hl (k := 2) rfl (by decide) (by decide) rfl (fun ls hl => ?_)
              refine lv_goto (tgt := 14) hx hb dX5_most_48 (by decide) ?_
              exact ih14 (j + 1)  ls (by omega) (by omega) (lv_sub hl [2, 1, 0] (by rw [ms, if_pos ⟨c32, c40⟩]; rfl))
    exact lp14 (2 ^ np - 1 + 1) 1  ls (Nat.lt_succ_self _) (by omega) (lv_sub hl [2, 1, 0] (by rw [ms_1]; rfl))
  · refine lv_bipush (v := (-3)) hx hb dX5_most_7 (by decide) ?_
    exact zretI hx hb hr hlocks rfl (by rw [sp_most, if_neg (by omega)]) dX5_most_9

set_option maxHeartbeats 4000000 in
set_option maxRecDepth 100000 in
theorem c_X5_goneOf (l : Launch) (g : Gx) (y : Nat) (ya : Nat) (yb : Nat) (yc : Nat) (yd : Nat) (ye : Nat) (yf : Nat) (yg : Nat) (yh : Nat) (yi : Nat) (yj : Nat) (yk : Nat) (yl : Nat) (ft : Nat) (tr : Int32) (lane : Nat → Nat) (ml : Nat → Nat) (cel : Nat → Nat → Int32) (np : Nat) (sl : Nat) (kd : Nat → Nat) (hg : Nat → Nat) (ps : Nat) (rs : Int32) (rn : Nat) (rk : Nat → Int32) (rh : Nat → Int32) (lg : Int32) (fk : Int32) (gt : Int32) (tkn : Nat → Int32) (nr : Nat) (ru : Nat → Nat) (rl : Nat → Nat) (rm : Nat → Nat) (rd : Nat → Nat) (b : Nat) (m : Nat) (hnp : np ≤ 6) (hsl : sl ≤ 9) (hkd : ∀ j, kd j ≤ 2) (hhg : ∀ j, hg j ≤ 9) (hb6 : b < 64) (hm : m ≤ 9) : Met l yX5_goneOf wsX5_goneOf ({ frames := 4, cells := 0, slots := 0, locals := 97 } : Room) (PcR g [.ref y, .int (nI b), .int (nI m)] (wM g y ya yb yc yd ye yf yg yh yi yj yk yl ft tr lane ml cel np sl kd hg ps rs rn rk rh lg fk gt tkn nr ru rl rm rd)) (vp_Si (fun r => r = nI (bset (frb (fun q => fset np sl kd hg q m) b) np))) 0 0 (fun _ => False) := by
  refine zenterR (cc := cX5_goneOf) (maxL := 5) (ret := (some .int)) (by decide) rfl (Nat.le_of_ble_eq_true rfl) ?_
  intro P E s mt below meth cd ls hx hb hml hown hts hr hlocks hP hK hl
  have hl : lv_has ls 5 [(0, .ref y), (1, .int (nI b)), (2, .int (nI m))] := hl
  have S0 : CallFix P mt cd cX5_goneOf 5 s [.ref y, .int (nI b), .int (nI m)].toArray wsX5_goneOf RX5 := ⟨hx, hb, hml, hown, hts⟩
  refine lv_iconst (v := (nI 0)) hx hb dX5_goneOf_0 (by decide) ?_
  refine lv_istore_n (lv' := [(3, .int (nI 0)), (0, .ref y), (1, .int (nI b)), (2, .int (nI m))]) hx hb dX5_goneOf_1 rfl hl (by decide) rfl (fun ls hl => ?_)
  refine lv_iconst (v := (nI 0)) hx hb dX5_goneOf_2 (by decide) ?_
  refine lv_istore (lv' := [(4, .int (nI 0)), (3, .int (nI 0)), (0, .ref y), (1, .int (nI b)), (2, .int (nI m))]) hx hb dX5_goneOf_3 hl (by decide) rfl (fun ls hl => ?_)
  have lp5 : ∀ (nn : Nat) (i : Nat) (ls : Array Slot), (np - i) < nn → (i ≤ np) → lv_has ls 5 [(0, .ref y), (1, .int (nI b)), (2, .int (nI m)), (3, .int (nI (bset (frb (fun q => fset np sl kd hg q m) b) i))), (4, .int (nI i))] → W P l E ({ frames := 4, cells := 0, slots := 0, locals := 97 } : Room) s mt [.ref y, .int (nI b), .int (nI m)].toArray below meth cd s.heap [] 0 0 (MQ below (vp_Si (fun r => r = nI (bset (frb (fun q => fset np sl kd hg q m) b) np))) [.ref y, .int (nI b), .int (nI m)].toArray s 0 0 (fun _ => False)) (F0 mt 5 ls []) := by
    intro nn
    induction nn with
    | zero => intro i ls hmu; exact absurd hmu (Nat.not_lt_zero _)
    | succ nn ih5 =>
      intro i ls hmu hi hl
      refine lv_iload hx hb dX5_goneOf_5 (lv_at hl 4 rfl) ?_
      refine lv_aload_n hx hb dX5_goneOf_7 rfl (lv_at hl 0 rfl) ?_
      refine va_get (D := g.1) (ci := 5) (v := .int (nI np)) (C := RX5) (T := TX5) (N := 23) hx hb hts (fun _ h => (List.mem_cons_of_mem _ (List.mem_append_right _ h))) hown hK.1 hP 0 rfl rfl 5 (by decide) (hts _ (List.mem_of_getElem? (i := 1) rfl)) (fun _ h9 => h9) rfl dX5_goneOf_8 ?_
      refine n_icmp_ge (a := i) (b := np) (tgt := 43) hx hb (by omega) (by omega) dX5_goneOf_11 (by decide) (fun c11 => ?_) (fun c11 => ?_)
      · obtain rfl : np = i := by omega
        refine lv_iload_n hx hb dX5_goneOf_43 rfl (lv_at hl 3 rfl) ?_
        exact zretI hx hb hr hlocks rfl rfl dX5_goneOf_44
      · refine lv_iload_n hx hb dX5_goneOf_14 rfl (lv_at hl 3 rfl) ?_
        refine lv_aload_n hx hb dX5_goneOf_15 rfl (lv_at hl 0 rfl) ?_
        refine lv_iload hx hb dX5_goneOf_16 (lv_at hl 4 rfl) ?_
        refine lv_iload_n hx hb dX5_goneOf_18 rfl (lv_at hl 2 rfl) ?_
        have hPc : PP g (wM g y ya yb yc yd ye yf yg yh yi yj yk yl ft tr lane ml cel np sl kd hg ps rs rn rk rh lg fk gt tkn nr ru rl rm rd) _ := hP
        refine zcallR (va_runV (As := [.int (nI i), .int (nI m)]) (rest := [.int (nI (bset (frb (fun q => fset np sl kd hg q m) b) i))]) (b := y) S0 (c_X5_fitsOf l g y ya yb yc yd ye yf yg yh yi yj yk yl ft tr lane ml cel np sl kd hg ps rs rn rk rh lg fk gt tkn nr ru rl rm rd i m hnp hsl hkd hhg (by omega) (by omega)) (cwV 2 hts gX5_goneOf_X5_fitsOf rfl rfl rfl (by decide +kernel) ⟨by decide, by decide⟩) (zpreV hK hPc (va_recv hK.1 hPc (ci := 5) (q0 := 0) rfl rfl)) rfl rfl hl.1 rfl (lv_room (Nat.le_of_ble_eq_true rfl)) dX5_goneOf_19 ⟨by decide, by decide⟩) (fun r19 h19 => ?_)
        subst h19
        have f1 := fset_64 hnp sl kd hg i m
        refine lv_iload_n hx hb dX5_goneOf_22 rfl (lv_at hl 1 rfl) ?_
        refine n_iand (a := (fset np sl kd hg i m)) (b := b) hx hb dX5_goneOf_23 ?_
        refine n_if_eq (a := ((fset np sl kd hg i m) &&& b)) (tgt := 34) hx hb (Nat.lt_trans (and_lt hb6) (by decide)) dX5_goneOf_24 (by decide) (fun c24 => ?_) (fun c24 => ?_)
        · refine lv_iconst (v := (nI 0)) hx hb dX5_goneOf_34 (by decide) ?_
          refine ztopI (nI (bt (frb (fun q => fset np sl kd hg q m) b i) i)) (by rw [frb, b01_f (fun z => z c24), bt, if_pos rfl]) ?_
          refine n_ior (a := (bset (frb (fun q => fset np sl kd hg q m) b) i)) (b := (bt (frb (fun q => fset np sl kd hg q m) b i) i)) hx hb dX5_goneOf_35 ?_
          refine lv_istore_n (lv' := [(3, .int (nI ((bset (frb (fun q => fset np sl kd hg q m) b) i) ||| (bt (frb (fun q => fset np sl kd hg q m) b i) i)))), (0, .ref y), (1, .int (nI b)), (2, .int (nI m)), (4, .int (nI i))]) hx hb dX5_goneOf_36 rfl hl (by decide) rfl (fun ls hl => ?_)
          refine n_iinc (a := i) (d := 1) (lv' := [(4, .int (nI (i + 1))), (3, .int (nI ((bset (frb (fun q => fset np sl kd hg q m) b) i) ||| (bt (frb (fun q => fset np sl kd hg q m) b i) i)))), (0, .ref y), (1, .int (nI b)), (2, .int (nI m))]) hx hb dX5_goneOf_37 hl (k := 4) rfl (by decide) (by decide) rfl (fun ls hl => ?_)
          refine lv_goto (tgt := 5) hx hb dX5_goneOf_40 (by decide) ?_
          exact ih5 (i + 1)  ls (by omega) (by omega) (lv_sub hl [2, 3, 4, 1, 0] rfl)
        · refine lv_iconst (v := (nI 1)) hx hb dX5_goneOf_27 (by decide) ?_
          refine lv_iload hx hb dX5_goneOf_28 (lv_at hl 4 rfl) ?_
          refine n_ishl1 (n := i) hx hb (by omega) dX5_goneOf_30 ?_
          refine ztopI (nI (bt (frb (fun q => fset np sl kd hg q m) b i) i)) (by rw [frb, b01_t c24, bt, if_neg (by decide)]) ?_
          refine lv_goto (tgt := 35) hx hb dX5_goneOf_31 (by decide) ?_
          refine n_ior (a := (bset (frb (fun q => fset np sl kd hg q m) b) i)) (b := (bt (frb (fun q => fset np sl kd hg q m) b i) i)) hx hb dX5_goneOf_35 ?_
          refine lv_istore_n (lv' := [(3, .int (nI ((bset (frb (fun q => fset np sl kd hg q m) b) i) ||| (bt (frb (fun q => fset np sl kd hg q m) b i) i)))), (0, .ref y), (1, .int (nI b)), (2, .int (nI m)), (4, .int (nI i))]) hx hb dX5_goneOf_36 rfl hl (by decide) rfl (fun ls hl => ?_)
          refine n_iinc (a := i) (d := 1) (lv' := [(4, .int (nI (i + 1))), (3, .int (nI ((bset (frb (fun q => fset np sl kd hg q m) b) i) ||| (bt (frb (fun q => fset np sl kd hg q m) b i) i)))), (0, .ref y), (1, .int (nI b)), (2, .int (nI m))]) hx hb dX5_goneOf_37 hl (k := 4) rfl (by decide) (by decide) rfl (fun ls hl => ?_)
          refine lv_goto (tgt := 5) hx hb dX5_goneOf_40 (by decide) ?_
          exact ih5 (i + 1)  ls (by omega) (by omega) (lv_sub hl [2, 3, 4, 1, 0] rfl)
  exact lp5 (np - 0 + 1) 0  ls (Nat.lt_succ_self _) (by omega) (lv_sub hl [2, 3, 4, 1, 0] rfl)

set_option maxHeartbeats 4000000 in
set_option maxRecDepth 100000 in
theorem c_X5_letGo (l : Launch) (g : Gx) (y : Nat) (ya : Nat) (yb : Nat) (yc : Nat) (yd : Nat) (ye : Nat) (yf : Nat) (yg : Nat) (yh : Nat) (yi : Nat) (yj : Nat) (yk : Nat) (yl : Nat) (ft : Nat) (tr : Int32) (lane : Nat → Nat) (ml : Nat → Nat) (cel : Nat → Nat → Int32) (np : Nat) (sl : Nat) (kd : Nat → Nat) (hg : Nat → Nat) (ps : Nat) (rs : Int32) (rn : Nat) (rk : Nat → Int32) (rh : Nat → Int32) (lg : Int32) (fk : Int32) (gt : Int32) (tkn : Nat → Int32) (nr : Nat) (ru : Nat → Nat) (rl : Nat → Nat) (rm : Nat → Nat) (rd : Nat → Nat) (set : Int32) (m : Int32) (hG : Gd np sl kd hg nr ru rl rm rd lane ml) : Met l yX5_letGo wsX5_letGo ({ frames := 5, cells := 0, slots := 0, locals := 121 } : Room) (PcR g [.ref y, .int set, .int m] (wM g y ya yb yc yd ye yf yg yh yi yj yk yl ft tr lane ml cel np sl kd hg ps rs rn rk rh lg fk gt tkn nr ru rl rm rd)) (vp_Si (fun r => r = sp_letGo np sl kd hg set m)) 0 0 (fun _ => False) := by
  refine zenterR (cc := cX5_letGo) (maxL := 3) (ret := (some .int)) (by decide) rfl (Nat.le_of_ble_eq_true rfl) ?_
  intro P E s mt below meth cd ls hx hb hml hown hts hr hlocks hP hK hl
  have hl : lv_has ls 3 [(0, .ref y), (1, .int set), (2, .int m)] := hl
  have S0 : CallFix P mt cd cX5_letGo 3 s [.ref y, .int set, .int m].toArray wsX5_letGo RX5 := ⟨hx, hb, hml, hown, hts⟩
  obtain ⟨hnp, hsl, hkd, hhg, hnr, hru, hrl, hrm, hrd, hla, hmz⟩ := hG
  have h64 := pow_le64 hnp
  refine lv_aload_n hx hb dX5_letGo_0 rfl (lv_at hl 0 rfl) ?_
  refine va_get (D := g.1) (ci := 5) (v := .int (nI np)) (C := RX5) (T := TX5) (N := 23) hx hb hts (fun _ h => (List.mem_cons_of_mem _ (List.mem_append_right _ h))) hown hK.1 hP 0 rfl rfl 5 (by decide) (hts _ (List.mem_of_getElem? (i := 1) rfl)) (fun _ h9 => h9) rfl dX5_letGo_1 ?_
  refine n_if_ne (a := np) (tgt := 10) hx hb (by omega) dX5_letGo_4 (by decide) (fun c4 => ?_) (fun c4 => ?_)
  · refine lv_aload_n hx hb dX5_letGo_10 rfl (lv_at hl 0 rfl) ?_
    refine lv_iload_n hx hb dX5_letGo_11 rfl (lv_at hl 1 rfl) ?_
    have hPc : PP g (wM g y ya yb yc yd ye yf yg yh yi yj yk yl ft tr lane ml cel np sl kd hg ps rs rn rk rh lg fk gt tkn nr ru rl rm rd) _ := hP
    refine zcallR (va_runV (As := [.int set]) (rest := []) (b := y) S0 (c_X5_isSet l g y ya yb yc yd ye yf yg yh yi yj yk yl ft tr lane ml cel np sl kd hg ps rs rn rk rh lg fk gt tkn nr ru rl rm rd set hnp) (cwV 1 hts gX5_letGo_X5_isSet rfl rfl rfl (by decide +kernel) ⟨by decide, by decide⟩) (zpreV hK hPc (va_recv hK.1 hPc (ci := 5) (q0 := 0) rfl rfl)) rfl rfl hl.1 rfl (lv_room (Nat.le_of_ble_eq_true rfl)) dX5_letGo_12 ⟨by decide, by decide⟩) (fun r12 h12 => ?_)
    rcases h12 with ⟨w_12, hw_12, hv_12, rfl⟩ | ⟨hn_12, rfl⟩
    · subst hv_12
      refine lv_if_eq (tgt := 34) hx hb dX5_letGo_15 (by decide) (fun c15 => ?_) (fun c15 => ?_)
      · exact absurd c15 (by decide)
      refine lv_iload_n hx hb dX5_letGo_18 rfl (lv_at hl 2 rfl) ?_
      refine zcallR (va_runS (As := [.int m]) (rest := []) S0 (c_X5_isDigit l g m) (va_cwS 1 hts gX5_letGo_X5_isDigit rfl rfl rfl (by decide +kernel) ⟨by decide, by decide⟩) (zpreS hK (P_nil _)) rfl rfl hl.1 rfl (lv_room (Nat.le_of_ble_eq_true rfl)) dX5_letGo_19 ⟨by decide, by decide⟩) (fun r19 h19 => ?_)
      rcases h19 with ⟨w_19, hw_19, hv_19, rfl⟩ | ⟨hn_19, rfl⟩
      · subst hv_19
        refine lv_if_eq (tgt := 34) hx hb dX5_letGo_22 (by decide) (fun c22 => ?_) (fun c22 => ?_)
        · exact absurd c22 (by decide)
        refine lv_aload_n hx hb dX5_letGo_25 rfl (lv_at hl 0 rfl) ?_
        refine lv_iload_n hx hb dX5_letGo_26 rfl (lv_at hl 1 rfl) ?_
        refine lv_iload_n hx hb dX5_letGo_27 rfl (lv_at hl 2 rfl) ?_
        have hPc : PP g (wM g y ya yb yc yd ye yf yg yh yi yj yk yl ft tr lane ml cel np sl kd hg ps rs rn rk rh lg fk gt tkn nr ru rl rm rd) _ := hP
        refine zcallR (va_runV (As := [.int (nI w_12), .int (nI w_19)]) (rest := []) (b := y) S0 (c_X5_goneOf l g y ya yb yc yd ye yf yg yh yi yj yk yl ft tr lane ml cel np sl kd hg ps rs rn rk rh lg fk gt tkn nr ru rl rm rd w_12 w_19 hnp hsl hkd hhg (by omega) (by omega)) (cwV 2 hts gX5_letGo_X5_goneOf rfl rfl rfl (by decide +kernel) ⟨by decide, by decide⟩) (zpreV hK hPc (va_recv hK.1 hPc (ci := 5) (q0 := 0) rfl rfl)) rfl rfl hl.1 rfl (lv_room (Nat.le_of_ble_eq_true rfl)) dX5_letGo_28 ⟨by decide, by decide⟩) (fun r28 h28 => ?_)
        subst h28
        have f1 := bset_64 (frb (fun q => fset np sl kd hg q w_19) w_12) hnp
        refine lv_goto (tgt := 36) hx hb dX5_letGo_31 (by decide) ?_
        exact zretI hx hb hr hlocks rfl (by rw [sp_letGo, if_pos (by omega), if_pos ⟨(isP_of (by omega) hw_12), (isP_of (by omega) hw_19)⟩, tN_nI (u := w_12) (by omega), tN_nI (u := w_19) (by omega)]) dX5_letGo_36
      · refine lv_if_eq (tgt := 34) hx hb dX5_letGo_22 (by decide) (fun c22 => ?_) (fun c22 => ?_)
        rotate_left
        · exact absurd (by decide) c22
        refine lv_bipush (v := (-2)) hx hb dX5_letGo_34 (by decide) ?_
        exact zretI hx hb hr hlocks rfl (by rw [sp_letGo, if_pos (by omega), if_neg (fun z => hn_19 z.2)]) dX5_letGo_36
    · refine lv_if_eq (tgt := 34) hx hb dX5_letGo_15 (by decide) (fun c15 => ?_) (fun c15 => ?_)
      rotate_left
      · exact absurd (by decide) c15
      refine lv_bipush (v := (-2)) hx hb dX5_letGo_34 (by decide) ?_
      exact zretI hx hb hr hlocks rfl (by rw [sp_letGo, if_pos (by omega), if_neg (fun z => hn_12 z.1)]) dX5_letGo_36
  · refine lv_bipush (v := (-3)) hx hb dX5_letGo_7 (by decide) ?_
    exact zretI hx hb hr hlocks rfl (by rw [sp_letGo, if_neg (by omega)]) dX5_letGo_9

set_option maxHeartbeats 4000000 in
set_option maxRecDepth 100000 in
theorem c_X5_fewest (l : Launch) (g : Gx) (y : Nat) (ya : Nat) (yb : Nat) (yc : Nat) (yd : Nat) (ye : Nat) (yf : Nat) (yg : Nat) (yh : Nat) (yi : Nat) (yj : Nat) (yk : Nat) (yl : Nat) (ft : Nat) (tr : Int32) (lane : Nat → Nat) (ml : Nat → Nat) (cel : Nat → Nat → Int32) (np : Nat) (sl : Nat) (kd : Nat → Nat) (hg : Nat → Nat) (ps : Nat) (rs : Int32) (rn : Nat) (rk : Nat → Int32) (rh : Nat → Int32) (lg : Int32) (fk : Int32) (gt : Int32) (tkn : Nat → Int32) (nr : Nat) (ru : Nat → Nat) (rl : Nat → Nat) (rm : Nat → Nat) (rd : Nat → Nat) (m : Int32) (hG : Gd np sl kd hg nr ru rl rm rd lane ml) : Met l yX5_fewest wsX5_fewest ({ frames := 5, cells := 0, slots := 0, locals := 121 } : Room) (PcR g [.ref y, .int m] (wM g y ya yb yc yd ye yf yg yh yi yj yk yl ft tr lane ml cel np sl kd hg ps rs rn rk rh lg fk gt tkn nr ru rl rm rd)) (vp_Si (fun r => r = sp_fewest np sl kd hg m)) 0 0 (fun _ => False) := by
  refine zenterR (cc := cX5_fewest) (maxL := 4) (ret := (some .int)) (by decide) rfl (Nat.le_of_ble_eq_true rfl) ?_
  intro P E s mt below meth cd ls hx hb hml hown hts hr hlocks hP hK hl
  have hl : lv_has ls 4 [(0, .ref y), (1, .int m)] := hl
  have S0 : CallFix P mt cd cX5_fewest 4 s [.ref y, .int m].toArray wsX5_fewest RX5 := ⟨hx, hb, hml, hown, hts⟩
  obtain ⟨hnp, hsl, hkd, hhg, hnr, hru, hrl, hrm, hrd, hla, hmz⟩ := hG
  have h64 := pow_le64 hnp
  have h65 := Nat.two_pow_pos np
  refine lv_iload_n hx hb dX5_fewest_0 rfl (lv_at hl 1 rfl) ?_
  refine zcallR (va_runS (As := [.int m]) (rest := []) S0 (c_X5_isDigit l g m) (va_cwS 1 hts gX5_fewest_X5_isDigit rfl rfl rfl (by decide +kernel) ⟨by decide, by decide⟩) (zpreS hK (P_nil _)) rfl rfl hl.1 rfl (lv_room (Nat.le_of_ble_eq_true rfl)) dX5_fewest_1 ⟨by decide, by decide⟩) (fun r1 h1 => ?_)
  rcases h1 with ⟨w_1, hw_1, hv_1, rfl⟩ | ⟨hn_1, rfl⟩
  · subst hv_1
    refine lv_if_ne (tgt := 10) hx hb dX5_fewest_4 (by decide) (fun c4 => ?_) (fun c4 => ?_)
    rotate_left
    · exact absurd c4 (by decide)
    refine lv_aload_n hx hb dX5_fewest_10 rfl (lv_at hl 0 rfl) ?_
    refine va_get (D := g.1) (ci := 5) (v := .int (nI np)) (C := RX5) (T := TX5) (N := 23) hx hb hts (fun _ h => (List.mem_cons_of_mem _ (List.mem_append_right _ h))) hown hK.1 hP 0 rfl rfl 5 (by decide) (hts _ (List.mem_of_getElem? (i := 1) rfl)) (fun _ h9 => h9) rfl dX5_fewest_11 ?_
    refine n_if_ne (a := np) (tgt := 20) hx hb (by omega) dX5_fewest_14 (by decide) (fun c14 => ?_) (fun c14 => ?_)
    · refine lv_bipush (v := (-9)) hx hb dX5_fewest_20 (by decide) ?_
      refine lv_istore_n (lv' := [(2, .int (-9)), (0, .ref y), (1, .int (nI w_1))]) hx hb dX5_fewest_22 rfl hl (by decide) rfl (fun ls hl => ?_)
      refine lv_iconst (v := (nI 0)) hx hb dX5_fewest_23 (by decide) ?_
      refine lv_istore_n (lv' := [(3, .int (nI 0)), (2, .int (-9)), (0, .ref y), (1, .int (nI w_1))]) hx hb dX5_fewest_24 rfl hl (by decide) rfl (fun ls hl => ?_)
      have lp25 : ∀ (nn : Nat) (j : Nat) (ls : Array Slot), (2 ^ np - j) < nn → (j ≤ 2 ^ np) → lv_has ls 4 [(0, .ref y), (1, .int (nI w_1)), (2, .int (enc (fw (fun q => fset np sl kd hg q w_1) np j))), (3, .int (nI j))] → W P l E ({ frames := 5, cells := 0, slots := 0, locals := 121 } : Room) s mt [.ref y, .int (nI w_1)].toArray below meth cd s.heap [] 0 0 (MQ below (vp_Si (fun r => r = sp_fewest np sl kd hg (nI w_1))) [.ref y, .int (nI w_1)].toArray s 0 0 (fun _ => False)) (F0 mt 25 ls []) := by
        intro nn
        induction nn with
        | zero => intro j ls hmu; exact absurd hmu (Nat.not_lt_zero _)
        | succ nn ih25 =>
          intro j ls hmu hj hl
          have hmb : ∀ b, fw (fun q => fset np sl kd hg q w_1) np j = some b → b < 2 ^ 31 := fun b hb => by have := fw_lt hb; omega
          have hq1 := pc_32 j
          refine lv_iload_n hx hb dX5_fewest_25 rfl (lv_at hl 3 rfl) ?_
          refine lv_iconst (v := (nI 1)) hx hb dX5_fewest_26 (by decide) ?_
          refine lv_aload_n hx hb dX5_fewest_27 rfl (lv_at hl 0 rfl) ?_
          refine va_get (D := g.1) (ci := 5) (v := .int (nI np)) (C := RX5) (T := TX5) (N := 23) hx hb hts (fun _ h => (List.mem_cons_of_mem _ (List.mem_append_right _ h))) hown hK.1 hP 0 rfl rfl 5 (by decide) (hts _ (List.mem_of_getElem? (i := 1) rfl)) (fun _ h9 => h9) rfl dX5_fewest_28 ?_
          refine n_ishl1 (n := np) hx hb (by omega) dX5_fewest_31 ?_
          refine n_icmp_ge (a := j) (b := (2 ^ np)) (tgt := 77) hx hb (by omega) (by omega) dX5_fewest_32 (by decide) (fun c32 => ?_) (fun c32 => ?_)
          · obtain rfl : 2 ^ np = j := by omega
            refine lv_iload_n hx hb dX5_fewest_77 rfl (lv_at hl 2 rfl) ?_
            exact zretI hx hb hr hlocks rfl (by rw [sp_fewest, if_pos (isP_of (by omega) hw_1), if_pos (by omega), tN_nI (u := w_1) (by omega)]) dX5_fewest_78
          · refine lv_iload_n hx hb dX5_fewest_35 rfl (lv_at hl 2 rfl) ?_
            refine lv_bipush (v := (-9)) hx hb dX5_fewest_36 (by decide) ?_
            refine lv_icmp_eq (tgt := 52) hx hb dX5_fewest_38 (by decide) (fun c38 => ?_) (fun c38 => ?_)
            · refine lv_aload_n hx hb dX5_fewest_52 rfl (lv_at hl 0 rfl) ?_
              refine lv_iload_n hx hb dX5_fewest_53 rfl (lv_at hl 3 rfl) ?_
              refine lv_iload_n hx hb dX5_fewest_54 rfl (lv_at hl 1 rfl) ?_
              have hPc : PP g (wM g y ya yb yc yd ye yf yg yh yi yj yk yl ft tr lane ml cel np sl kd hg ps rs rn rk rh lg fk gt tkn nr ru rl rm rd) _ := hP
              refine zcallR (va_runV (As := [.int (nI j), .int (nI w_1)]) (rest := []) (b := y) S0 (c_X5_goneOf l g y ya yb yc yd ye yf yg yh yi yj yk yl ft tr lane ml cel np sl kd hg ps rs rn rk rh lg fk gt tkn nr ru rl rm rd j w_1 hnp hsl hkd hhg (by omega) (by omega)) (cwV 2 hts gX5_fewest_X5_goneOf rfl rfl rfl (by decide +kernel) ⟨by decide, by decide⟩) (zpreV hK hPc (va_recv hK.1 hPc (ci := 5) (q0 := 0) rfl rfl)) rfl rfl hl.1 rfl (lv_room (Nat.le_of_ble_eq_true rfl)) dX5_fewest_55 ⟨by decide, by decide⟩) (fun r55 h55 => ?_)
              subst h55
              have f1 := bset_64 (frb (fun q => fset np sl kd hg q w_1) j) hnp
              refine lv_iconst (v := (nI 1)) hx hb dX5_fewest_58 (by decide) ?_
              refine lv_aload_n hx hb dX5_fewest_59 rfl (lv_at hl 0 rfl) ?_
              refine va_get (D := g.1) (ci := 5) (v := .int (nI np)) (C := RX5) (T := TX5) (N := 23) hx hb hts (fun _ h => (List.mem_cons_of_mem _ (List.mem_append_right _ h))) hown hK.1 hP 0 rfl rfl 5 (by decide) (hts _ (List.mem_of_getElem? (i := 1) rfl)) (fun _ h9 => h9) rfl dX5_fewest_60 ?_
              refine n_ishl1 (n := np) hx hb (by omega) dX5_fewest_63 ?_
              refine lv_iconst (v := (nI 1)) hx hb dX5_fewest_64 (by decide) ?_
              refine n_isub (a := (2 ^ np)) (b := 1) hx hb (Nat.one_le_two_pow) dX5_fewest_65 ?_
              refine n_icmp_ne (a := (bset (frb (fun q => fset np sl kd hg q w_1) j) np)) (b := ((2 ^ np) - 1)) (tgt := 71) hx hb (by omega) (by omega) dX5_fewest_66 (by decide) (fun c66 => ?_) (fun c66 => ?_)
              · refine n_iinc (a := j) (d := 1) (lv' := [(3, .int (nI (j + 1))), (0, .ref y), (1, .int (nI w_1)), (2, .int (enc (fw (fun q => fset np sl kd hg q w_1) np j)))]) hx hb dX5_fewest_71 hl (k := 3) rfl (by decide) (by decide) rfl (fun ls hl => ?_)
                refine lv_goto (tgt := 25) hx hb dX5_fewest_74 (by decide) ?_
                exact ih25 (j + 1)  ls (by omega) (by omega) (lv_sub hl [1, 2, 3, 0] (by rw [fw_no2 (L := (fun q => fset np sl kd hg q w_1)) c66]; rfl))
              · refine lv_iload_n hx hb dX5_fewest_69 rfl (lv_at hl 3 rfl) ?_
                refine lv_istore_n (lv' := [(2, .int (nI j)), (0, .ref y), (1, .int (nI w_1)), (3, .int (nI j))]) hx hb dX5_fewest_70 rfl hl (by decide) rfl (fun ls hl => ?_)
                refine n_iinc (a := j) (d := 1) (lv' := [(3, .int (nI (j + 1))), (2, .int (nI j)), (0, .ref y), (1, .int (nI w_1))]) hx hb dX5_fewest_71 hl (k := 3) rfl (by decide) (by decide) rfl (fun ls hl => ?_)
                refine lv_goto (tgt := 25) hx hb dX5_fewest_74 (by decide) ?_
                exact ih25 (j + 1)  ls (by omega) (by omega) (lv_sub hl [2, 3, 1, 0] (by rw [fw_yes (L := (fun q => fset np sl kd hg q w_1)) (by rw [fwl, (enc_9 hmb).mp c38]; have := pc_le (n := j) (k := np) (by omega); simp only; omega) c66]; rfl))
            · obtain ⟨bb, hbb⟩ := enc_some (o := fw (fun q => fset np sl kd hg q w_1) np j) c38
              rw [hbb] at hl
              have hl : lv_has ls 4 [(0, .ref y), (1, .int (nI w_1)), (2, .int (nI bb)), (3, .int (nI j))] := hl
              have hbl := fw_lt hbb
              have hq2 := pc_32 bb
              refine lv_iload_n hx hb dX5_fewest_41 rfl (lv_at hl 3 rfl) ?_
              refine zcallR (va_runS (As := [.int (nI j)]) (rest := []) S0 (c_X5_size l g j (by omega)) (va_cwS 1 hts gX5_fewest_X5_size rfl rfl rfl (by decide +kernel) ⟨by decide, by decide⟩) (zpreS hK (P_nil _)) rfl rfl hl.1 rfl (lv_room (Nat.le_of_ble_eq_true rfl)) dX5_fewest_42 ⟨by decide, by decide⟩) (fun r42 h42 => ?_)
              subst h42
              have f2 := pc_32 j
              refine lv_iload_n hx hb dX5_fewest_45 rfl (lv_at hl 2 rfl) ?_
              refine zcallR (va_runS (As := [.int (nI bb)]) (rest := [.int (nI (pc j))]) S0 (c_X5_size l g bb (by omega)) (va_cwS 1 hts gX5_fewest_X5_size rfl rfl rfl (by decide +kernel) ⟨by decide, by decide⟩) (zpreS hK (P_nil _)) rfl rfl hl.1 rfl (lv_room (Nat.le_of_ble_eq_true rfl)) dX5_fewest_46 ⟨by decide, by decide⟩) (fun r46 h46 => ?_)
              subst h46
              have f3 := pc_32 bb
              refine n_icmp_ge (a := (pc j)) (b := (pc bb)) (tgt := 71) hx hb (by omega) (by omega) dX5_fewest_49 (by decide) (fun c49 => ?_) (fun c49 => ?_)
              · refine n_iinc (a := j) (d := 1) (lv' := [(3, .int (nI (j + 1))), (0, .ref y), (1, .int (nI w_1)), (2, .int (nI bb))]) hx hb dX5_fewest_71 hl (k := 3) rfl (by decide) (by decide) rfl (fun ls hl => ?_)
                refine lv_goto (tgt := 25) hx hb dX5_fewest_74 (by decide) ?_
                exact ih25 (j + 1)  ls (by omega) (by omega) (lv_sub hl [1, 2, 3, 0] (by rw [fw_no1 (L := (fun q => fset np sl kd hg q w_1)) (by omega) (by rw [fwl, hbb]; exact c49), hbb]; rfl))
              · refine lv_aload_n hx hb dX5_fewest_52 rfl (lv_at hl 0 rfl) ?_
                refine lv_iload_n hx hb dX5_fewest_53 rfl (lv_at hl 3 rfl) ?_
                refine lv_iload_n hx hb dX5_fewest_54 rfl (lv_at hl 1 rfl) ?_
                have hPc : PP g (wM g y ya yb yc yd ye yf yg yh yi yj yk yl ft tr lane ml cel np sl kd hg ps rs rn rk rh lg fk gt tkn nr ru rl rm rd) _ := hP
                refine zcallR (va_runV (As := [.int (nI j), .int (nI w_1)]) (rest := []) (b := y) S0 (c_X5_goneOf l g y ya yb yc yd ye yf yg yh yi yj yk yl ft tr lane ml cel np sl kd hg ps rs rn rk rh lg fk gt tkn nr ru rl rm rd j w_1 hnp hsl hkd hhg (by omega) (by omega)) (cwV 2 hts gX5_fewest_X5_goneOf rfl rfl rfl (by decide +kernel) ⟨by decide, by decide⟩) (zpreV hK hPc (va_recv hK.1 hPc (ci := 5) (q0 := 0) rfl rfl)) rfl rfl hl.1 rfl (lv_room (Nat.le_of_ble_eq_true rfl)) dX5_fewest_55 ⟨by decide, by decide⟩) (fun r55 h55 => ?_)
                subst h55
                have f4 := bset_64 (frb (fun q => fset np sl kd hg q w_1) j) hnp
                refine lv_iconst (v := (nI 1)) hx hb dX5_fewest_58 (by decide) ?_
                refine lv_aload_n hx hb dX5_fewest_59 rfl (lv_at hl 0 rfl) ?_
                refine va_get (D := g.1) (ci := 5) (v := .int (nI np)) (C := RX5) (T := TX5) (N := 23) hx hb hts (fun _ h => (List.mem_cons_of_mem _ (List.mem_append_right _ h))) hown hK.1 hP 0 rfl rfl 5 (by decide) (hts _ (List.mem_of_getElem? (i := 1) rfl)) (fun _ h9 => h9) rfl dX5_fewest_60 ?_
                refine n_ishl1 (n := np) hx hb (by omega) dX5_fewest_63 ?_
                refine lv_iconst (v := (nI 1)) hx hb dX5_fewest_64 (by decide) ?_
                refine n_isub (a := (2 ^ np)) (b := 1) hx hb (Nat.one_le_two_pow) dX5_fewest_65 ?_
                refine n_icmp_ne (a := (bset (frb (fun q => fset np sl kd hg q w_1) j) np)) (b := ((2 ^ np) - 1)) (tgt := 71) hx hb (by omega) (by omega) dX5_fewest_66 (by decide) (fun c66 => ?_) (fun c66 => ?_)
                · refine n_iinc (a := j) (d := 1) (lv' := [(3, .int (nI (j + 1))), (0, .ref y), (1, .int (nI w_1)), (2, .int (nI bb))]) hx hb dX5_fewest_71 hl (k := 3) rfl (by decide) (by decide) rfl (fun ls hl => ?_)
                  refine lv_goto (tgt := 25) hx hb dX5_fewest_74 (by decide) ?_
                  exact ih25 (j + 1)  ls (by omega) (by omega) (lv_sub hl [1, 2, 3, 0] (by rw [fw_no2 (L := (fun q => fset np sl kd hg q w_1)) c66, hbb]; rfl))
                · refine lv_iload_n hx hb dX5_fewest_69 rfl (lv_at hl 3 rfl) ?_
                  refine lv_istore_n (lv' := [(2, .int (nI j)), (0, .ref y), (1, .int (nI w_1)), (3, .int (nI j))]) hx hb dX5_fewest_70 rfl hl (by decide) rfl (fun ls hl => ?_)
                  refine n_iinc (a := j) (d := 1) (lv' := [(3, .int (nI (j + 1))), (2, .int (nI j)), (0, .ref y), (1, .int (nI w_1))]) hx hb dX5_fewest_71 hl (k := 3) rfl (by decide) (by decide) rfl (fun ls hl => ?_)
                  refine lv_goto (tgt := 25) hx hb dX5_fewest_74 (by decide) ?_
                  exact ih25 (j + 1)  ls (by omega) (by omega) (lv_sub hl [2, 3, 1, 0] (by rw [fw_yes (L := (fun q => fset np sl kd hg q w_1)) (by rw [fwl, hbb]; exact c49) c66]; rfl))
      exact lp25 (2 ^ np - 0 + 1) 0  ls (Nat.lt_succ_self _) (by omega) (lv_sub hl [2, 3, 1, 0] rfl)
    · refine lv_bipush (v := (-3)) hx hb dX5_fewest_17 (by decide) ?_
      exact zretI hx hb hr hlocks rfl (by rw [sp_fewest, if_pos (isP_of (by omega) hw_1), if_neg (by omega)]) dX5_fewest_19
  · refine lv_if_ne (tgt := 10) hx hb dX5_fewest_4 (by decide) (fun c4 => ?_) (fun c4 => ?_)
    · exact absurd c4 (by decide)
    refine lv_bipush (v := (-2)) hx hb dX5_fewest_7 (by decide) ?_
    exact zretI hx hb hr hlocks rfl (by rw [sp_fewest, if_neg hn_1]) dX5_fewest_9
